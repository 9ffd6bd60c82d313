set_option maxRecDepth 100000 in
set_option maxHeartbeats 4000000 in
theorem c_Pa_out (l : Launch) (z : ZK) (G : GW) (hX : isPx G) (iv : IV) (jv : JV) (B : Nat → Nat) (n : Nat) (t : Tok) (hR : LR iv jv B n t) (b : Nat) (hL : isLa G b) (hb : 1000 ≤ b) (ins : List Col) (hI : LI iv jv b ins) (hk2 : kdT B t = 2) (h20 : iv (b + 20) 1 = nI 0) (h30 : iv (b + 30) 0 = nI 0) : cI l z yX4_readOutput cX4_readOutput 2 (some .boolean) 4 90 0 0 [.ref (G.ad 102), .ref (G.ad b)] G iv jv (fun r G' iv' jv' => G = G' ∧ r = bI (decide ((rdCol B n (nmsOf ins) 0 t).1 = 0)) ∧ LR iv' jv' B n (rdCol B n (nmsOf ins) 0 t).2.2.2 ∧ ((rdCol B n (nmsOf ins) 0 t).1 ≠ 0 → iv' 102 1 = nI (rdCol B n (nmsOf ins) 0 t).1) ∧ ((rdCol B n (nmsOf ins) 0 t).1 = 0 → LI iv' jv' b ins ∧ CV iv' jv' (b + 20) (rdCol B n (nmsOf ins) 0 t).2.2.1) ∧ Fr iv iv' (pB b) ∧ FrJ jv jv' (qB b) ∧ iv' (b + 30) 0 = nI 0) := by
  intro sz
  refine rg_entry rfl (Nat.le_of_ble_eq_true rfl) ?_
  intro pq eq sq mq bq methq cq ls hE hr hlk hml hnm hl hsz hH
  have hl : lv_has ls 2 [(0, .ref (G.ad 102)), (1, .ref (G.ad b))] := hl
  have hFr : Fr iv iv (pB b) := Fr.rf
  have hFj : FrJ jv jv (qB b) := FrJ.rf
  have htv := hR.tv
  refine lv_aload_n hE.1 hE.2.1 dX4_readOutput_0 rfl (lv_at hl 0 rfl) ?_
  refine lv_iconst (v := nI 2) hE.1 hE.2.1 dX4_readOutput_1 (by decide) ?_
  refine rg_VI (As := [.int (nI 2)]) (rest := []) hE hml hH mc_X4_88 (c_Pa_pass l z G hX iv jv B n t hR 2 (by decide)) (hX.1.1) (hX.1.2) (by decide) rfl ⟨Nat.le_of_ble_eq_true rfl, Nat.le_of_ble_eq_true rfl⟩ rfl hl.1 (by simp [Value.category]) dX4_readOutput_2 ⟨Nat.le_of_ble_eq_true rfl, Nat.le_of_ble_eq_true rfl⟩ (fun r2 G2 iv2 jv2 H locs hp2 hH => ?_)
  obtain ⟨rfl, rfl, hR, hfd2, hF2, hJ2⟩ := hp2
  have hFr := hFr.tr (hF2.mono (fun _ _ h => Or.inl h))
  have hFj := hFj.tr (hJ2.mono (fun _ _ h => Or.inl h))
  refine rn_ifb_eq (tgt := 25) hE dX4_readOutput_5 (by decide) (fun c5 => ?_) (fun c5 => ?_)
  · exact absurd hk2 (of_decide_eq_false c5)
  · rw [if_pos hk2] at hR
    have hI := hI.frZ hb hF2 hJ2
    have h20 : iv2 (b + 20) 1 = nI 0 := (hF2 _ _ (by simp only [pZ]; omega)).trans h20
    refine lv_aload_n hE.1 hE.2.1 dX4_readOutput_8 rfl (lv_at hl 0 rfl) ?_
    refine lv_aload_n hE.1 hE.2.1 dX4_readOutput_9 rfl (lv_at hl 1 rfl) ?_
    refine lv_aload_n hE.1 hE.2.1 dX4_readOutput_10 rfl (lv_at hl 1 rfl) ?_
    refine rg_getr hE hH cf_X1 fl_X4_91 rfl (hL.1.1) (hL.1.2) (v := b + 20) (hL.2.2.2.2.2.2.1) dX4_readOutput_11 ?_
    refine lv_iconst (v := nI 1) hE.1 hE.2.1 dX4_readOutput_14 (by decide) ?_
    refine rg_VI (As := [.ref (G.ad b), .ref (G.ad (b + 20)), .int (nI 1)]) (rest := []) hE hml hH mc_X4_76 (c_Pa_col l z G hX iv2 jv2 B n t htv hR b hL hb ins hI (b + 20) (hL.2.2.1 5 (by decide)) (by omega) (CV.nil h20) 1 (by decide)) (hX.1.1) (hX.1.2) (by decide) rfl ⟨Nat.le_of_ble_eq_true rfl, Nat.le_of_ble_eq_true rfl⟩ rfl hl.1 (by simp [Value.category]) dX4_readOutput_15 ⟨Nat.le_of_ble_eq_true rfl, Nat.le_of_ble_eq_true rfl⟩ (fun r15 G15 iv15 jv15 H locs hp15 hH => ?_)
    obtain ⟨rfl, rfl, hR, hfd15, hcv15, hF15, hJ15⟩ := hp15
    have hFr := hFr.tr (hF15.mono (fun lb j h => by simp only [pCo, pB] at h ⊢; omega))
    have hFj := hFj.tr (hJ15.mono (fun lb j h => by simp only [qCo, qB] at h ⊢; omega))
    have hI := hI.frC (c := b + 20) hb (fun i hi => by have := hI.2.2.1; omega) (by omega) hF15 hJ15
    rw [rdCol_01] at hR hfd15 hcv15
    refine rn_ifb_eq (tgt := 25) hE dX4_readOutput_18 (by decide) (fun c18 => ?_) (fun c18 => ?_)
    · have h30b : iv15 (b + 30) 0 = nI 0 := (hF15 _ _ (by simp only [pCo, pZ]; omega)).trans ((hF2 _ _ (by simp only [pZ]; omega)).trans h30)
      refine lv_iconst (v := nI 0) hE.1 hE.2.1 dX4_readOutput_25 (by decide) ?_
      exact rg_iret hE hr (nz_0) hlk hH ⟨rfl, zero_bI (by rw [rdCol_01] at c18; exact c18), hR, hfd15, fun h => absurd h (by rw [rdCol_01] at c18; exact of_decide_eq_false c18), hFr, hFj, h30b⟩ dX4_readOutput_26
    · have h30b : iv15 (b + 30) 0 = nI 0 := (hF15 _ _ (by simp only [pCo, pZ]; omega)).trans ((hF2 _ _ (by simp only [pZ]; omega)).trans h30)
      refine lv_iconst (v := nI 1) hE.1 hE.2.1 dX4_readOutput_21 (by decide) ?_
      refine lv_goto (tgt := 26) hE.1 hE.2.1 dX4_readOutput_22 (by decide) ?_
      exact rg_iret hE hr (nz_1) hlk hH ⟨rfl, one_bI (by rw [rdCol_01] at c18; exact c18), hR, hfd15, fun h => ⟨hI, (hcv15 h).2⟩, hFr, hFj, h30b⟩ dX4_readOutput_26
set_option maxRecDepth 100000 in
set_option maxHeartbeats 4000000 in
theorem c_Pa_cell (l : Launch) (z : ZK) (G : GW) (hX : isPx G) (iv : IV) (jv : JV) (B : Nat → Nat) (n : Nat) (t : Tok) (hR : LR iv jv B n t) (c : Nat) (hC : isCo G c) (hc : 1000 ≤ c) (vs : List Wd) (hV : CV iv jv c vs) (r : Nat) (hRo : isRo G r) (hr1 : 1000 ≤ r) (k i x : Nat) (hk : k < 40) (hi : i < 5) (hx64 : x < 64) (h0 : iv r 0 = nI k) (hx : iv (r + 1) (k * 5 + i) = nI x) : cI l z yX4_readCell cX4_readCell 8 (some .boolean) 3 66 0 0 [.ref (G.ad 102), .ref (G.ad c), .ref (G.ad r), .int (nI i)] G iv jv (fun r' G' iv' jv' => G = G' ∧ r' = bI (decide ((rdCell B n vs 0 t).1 = 0)) ∧ LR iv' jv' B n (rdCell B n vs 0 t).2.2 ∧ ((rdCell B n vs 0 t).1 ≠ 0 → iv' 102 1 = nI (rdCell B n vs 0 t).1) ∧ ((rdCell B n vs 0 t).1 = 0 → ∃ a, mkE vs.length a (rdCell B n vs 0 t).2.1 ∧ iv' (r + 1) (k * 5 + i) = nI (x &&& a)) ∧ Fr iv iv' (pRc r k i) ∧ FrJ jv jv' qZ) := by
  intro sz
  refine rg_entry rfl (Nat.le_of_ble_eq_true rfl) ?_
  intro pq eq sq mq bq methq cq ls hE hr hlk hml hnm hl hsz hH
  have hl : lv_has ls 8 [(0, .ref (G.ad 102)), (1, .ref (G.ad c)), (2, .ref (G.ad r)), (3, .int (nI i))] := hl
  have hFr : Fr iv iv (pRc r k i) := Fr.rf
  have hFj : FrJ jv jv qZ := FrJ.rf
  refine lv_aload_n hE.1 hE.2.1 dX4_readCell_0 rfl (lv_at hl 0 rfl) ?_
  refine rg_getr hE hH cf_X4 fl_X4_12 rfl (hX.1.1) (hX.1.2) (v := 103) (hX.2.2.2.2.2.2.1) dX4_readCell_1 ?_
  refine rg_geti hE hH cf_X2 fl_X4_59 rfl (hX.2.1.1) (hX.2.1.2) (v := nI (kdT B t)) (hR.kd) dX4_readCell_4 ?_
  refine lv_bipush (v := nI 8) hE.1 hE.2.1 dX4_readCell_7 (by decide) ?_
  refine rn_icmp_ne (tgt := 21) hE dX4_readCell_9 (by decide) (by have := hR.k16; omega) (by have := hR.k16; omega) (fun c9 => ?_) (fun c9 => ?_)
  · have hn42 : ¬ (tk t = 2 ∧ ts t = 42) := fun h => c9 ((kd_sg (c := 42) hR.tv (by decide)).mpr h)
    refine lv_aload_n hE.1 hE.2.1 dX4_readCell_21 rfl (lv_at hl 0 rfl) ?_
    refine rg_getr hE hH cf_X4 fl_X4_12 rfl (hX.1.1) (hX.1.2) (v := 103) (hX.2.2.2.2.2.2.1) dX4_readCell_22 ?_
    refine rg_geti hE hH cf_X2 fl_X4_59 rfl (hX.2.1.1) (hX.2.1.2) (v := nI (kdT B t)) (hR.kd) dX4_readCell_25 ?_
    refine lv_bipush (v := nI 10) hE.1 hE.2.1 dX4_readCell_28 (by decide) ?_
    refine rb_icmp_ne (t1 := 37) (t2 := 38) hE dX4_readCell_30 (by decide) dX4_readCell_33 dX4_readCell_34 (by decide) dX4_readCell_37 rfl (by have := hR.k16; omega) (by have := hR.k16; omega) ?_
    refine lv_istore (lv' := [(4, .int (bI (decide (kdT B t = 10)))), (0, .ref (G.ad 102)), (1, .ref (G.ad c)), (2, .ref (G.ad r)), (3, .int (nI i))]) hE.1 hE.2.1 dX4_readCell_38 hl (by decide) rfl (fun ls hl => ?_)
    refine lv_iload hE.1 hE.2.1 dX4_readCell_40 (lv_at hl 0 rfl) ?_
    refine rn_ifb_eq (tgt := 52) hE dX4_readCell_42 (by decide) (fun c42 => ?_) (fun c42 => ?_)
    · have hn10 := of_decide_eq_false c42
      have hn33 : ¬ (tk t = 2 ∧ ts t = 33) := fun h => hn10 ((kd_sg (c := 33) hR.tv (by decide)).mpr h)
      have hcl : rdCell B n vs 0 t = rdBits B n vs 64 0 t := by rw [rdCell, if_neg (by simp), if_neg hn42, if_neg hn33]
      refine lv_iconst (v := nI 0) hE.1 hE.2.1 dX4_readCell_52 (by decide) ?_
      refine lv_istore (lv' := [(5, .int (nI 0)), (4, .int (bI (decide (kdT B t = 10)))), (0, .ref (G.ad 102)), (1, .ref (G.ad c)), (2, .ref (G.ad r)), (3, .int (nI i))]) hE.1 hE.2.1 dX4_readCell_53 hl (by decide) rfl (fun ls hl => ?_)
      refine lv_iconst (v := nI 0) hE.1 hE.2.1 dX4_readCell_55 (by decide) ?_
      refine lv_istore (lv' := [(6, .int (nI 0)), (5, .int (nI 0)), (4, .int (bI (decide (kdT B t = 10)))), (0, .ref (G.ad 102)), (1, .ref (G.ad c)), (2, .ref (G.ad r)), (3, .int (nI i))]) hE.1 hE.2.1 dX4_readCell_56 hl (by decide) rfl (fun ls hl => ?_)
      refine rg_loop (σ := IV × JV × Nat × Nat × Tok) (nL := 8) (fun (u : IV × JV × Nat × Nat × Tok) => match u with | (iv2, jv2, b, q, t5) => 64 - b) (fun (u : IV × JV × Nat × Nat × Tok) => match u with | (iv2, jv2, b, q, t5) => [(0, .ref (G.ad 102)), (1, .ref (G.ad c)), (2, .ref (G.ad r)), (3, .int (nI i)), (4, .int (bI (decide (kdT B t = 10)))), (5, .int (nI b)), (6, .int (nI q))]) (fun (u : IV × JV × Nat × Nat × Tok) => match u with | (iv2, jv2, b, q, t5) => G) (fun (u : IV × JV × Nat × Nat × Tok) => match u with | (iv2, jv2, b, q, t5) => iv2) (fun (u : IV × JV × Nat × Nat × Tok) => match u with | (iv2, jv2, b, q, t5) => jv2) (fun (u : IV × JV × Nat × Nat × Tok) => match u with | (iv2, jv2, b, q, t5) => LR iv2 jv2 B n t5 ∧ CV iv2 jv2 c vs ∧ iv2 (r + 1) (k * 5 + i) = nI x ∧ iv2 r 0 = nI k ∧ b < 64 ∧ q = pop6 b ∧ q ≤ 6 ∧ (∃ f, 64 - b ≤ f ∧ rdBits B n vs f b t5 = rdBits B n vs 64 0 t) ∧ Fr iv iv2 (pRc r k i) ∧ FrJ jv jv2 qZ) ?_ ((iv, jv, 0, 0, t)) ⟨hR, hV, hx, h0, by decide, by decide, by decide, ⟨64, Nat.le_refl _, rfl⟩, hFr, hFj⟩ (lv_sub hl [3, 4, 5, 6, 2, 1, 0] rfl) hH
      rintro ⟨iv2, jv2, b, q, t5⟩ H locs ls ⟨hR, hV, hx, h0, hb64, hqp, hq6, ⟨f0, hf64, hf⟩, hFr, hFj⟩ hl hH ih58
      try dsimp only at hl hH ih58
      try dsimp only at hR hV hx h0 hb64 hqp hq6 hf64 hf hFr hFj
      obtain ⟨f, rfl⟩ : ∃ f, f0 = f + 1 := ⟨f0 - 1, by omega⟩
      refine lv_iload hE.1 hE.2.1 dX4_readCell_58 (lv_at hl 6 rfl) ?_
      refine lv_bipush (v := nI 6) hE.1 hE.2.1 dX4_readCell_60 (by decide) ?_
      refine rn_icmp_gt (tgt := 163) hE dX4_readCell_62 (by decide) (by omega) (by omega) (fun c62 => ?_) (fun c62 => ?_)
      · omega
      · refine lv_aload_n hE.1 hE.2.1 dX4_readCell_65 rfl (lv_at hl 0 rfl) ?_
        refine lv_aload_n hE.1 hE.2.1 dX4_readCell_66 rfl (lv_at hl 1 rfl) ?_
        refine rg_VI (As := [.ref (G.ad c)]) (rest := []) hE hml hH mc_X4_136 (c_Pa_told l z G hX iv2 jv2 B n t5 hR c hC hc vs hV) (hX.1.1) (hX.1.2) (by decide) rfl ⟨Nat.le_of_ble_eq_true rfl, Nat.le_of_ble_eq_true rfl⟩ rfl hl.1 (by simp [Value.category]) dX4_readCell_67 ⟨Nat.le_of_ble_eq_true rfl, Nat.le_of_ble_eq_true rfl⟩ (fun r67 G67 iv67 jv67 H locs hp67 hH => ?_)
        obtain ⟨rfl, rfl, hR, hfd67, hF67, hJ67⟩ := hp67
        have hFr := hFr.tr (hF67.mono (fun _ _ h => Or.inl h))
        have hFj := hFj.tr (hJ67.mono (fun _ _ h => h))
        have hV := hV.fr hF67 hJ67 (by simp only [pZ]; omega) (fun v => by simp only [qZ]; omega)
        have hx : iv67 (r + 1) (k * 5 + i) = nI x := (hF67 _ _ (by simp only [pZ]; omega)).trans hx
        have h0 : iv67 r 0 = nI k := (hF67 _ _ (by simp only [pZ]; omega)).trans h0
        refine lv_istore (lv' := [(7, .int (oI (tH B vs t5).2)), (0, .ref (G.ad 102)), (1, .ref (G.ad c)), (2, .ref (G.ad r)), (3, .int (nI i)), (4, .int (bI (decide (kdT B t = 10)))), (5, .int (nI b)), (6, .int (nI q))]) hE.1 hE.2.1 dX4_readCell_70 hl (by decide) rfl (fun ls hl => ?_)
        refine lv_iload hE.1 hE.2.1 dX4_readCell_72 (lv_at hl 0 rfl) ?_
        refine lv_iconst (v := -1) hE.1 hE.2.1 dX4_readCell_74 (by decide) ?_
        refine lv_icmp_ne (tgt := 80) hE.1 hE.2.1 dX4_readCell_75 (by decide) (fun c75 => ?_) (fun c75 => ?_)
        · obtain ⟨v, hvl, hf0, hix, hth⟩ : ∃ v, v < vs.length ∧ frF B (t5) = 0 ∧ ixW vs (wd B (t5)) = some v ∧ tH B vs (t5) = (0, some v) := by
            rcases tH_c (B := B) (vs := vs) (t := t5) with h | h
            · exact h
            · rw [h.2.1] at c75; exact absurd rfl c75
          have hv6 : v < 6 := by have := hV.2.1; omega
          rw [rdBits_tS hf0 hix] at hf
          have hbo := bit_or b hb64 v hv6
          have hps := pop6_s b hb64 v hv6
          have hl : lv_has ls 8 [(7, .int (nI v)), (0, .ref (G.ad 102)), (1, .ref (G.ad c)), (2, .ref (G.ad r)), (3, .int (nI i)), (4, .int (bI (decide (kdT B t = 10)))), (5, .int (nI b)), (6, .int (nI q))] := by rw [hth] at hl; exact hl
          refine lv_iload hE.1 hE.2.1 dX4_readCell_80 (lv_at hl 6 rfl) ?_
          refine lv_iload hE.1 hE.2.1 dX4_readCell_82 (lv_at hl 0 rfl) ?_
          refine lv_ishr hE.1 hE.2.1 dX4_readCell_84 ?_
          refine lv_iconst (v := nI 1) hE.1 hE.2.1 dX4_readCell_85 (by decide) ?_
          refine lv_iand hE.1 hE.2.1 dX4_readCell_86 ?_
          refine lv_if_eq (tgt := 96) hE.1 hE.2.1 dX4_readCell_87 (by decide) (fun c87 => ?_) (fun c87 => ?_)
          · rw [bit_t0 b hb64 v hv6] at c87
            rw [if_neg (by simp [c87])] at hf
            refine lv_iload hE.1 hE.2.1 dX4_readCell_96 (lv_at hl 6 rfl) ?_
            refine lv_iconst (v := nI 1) hE.1 hE.2.1 dX4_readCell_98 (by decide) ?_
            refine lv_iload hE.1 hE.2.1 dX4_readCell_99 (lv_at hl 0 rfl) ?_
            refine lv_ishl hE.1 hE.2.1 dX4_readCell_101 ?_
            refine lv_ior hE.1 hE.2.1 dX4_readCell_102 ?_
            refine rn_as (v' := nI (b ||| 2 ^ v)) (hbo.1) ?_
            refine lv_istore (lv' := [(5, .int (nI (b ||| 2 ^ v))), (7, .int (nI v)), (0, .ref (G.ad 102)), (1, .ref (G.ad c)), (2, .ref (G.ad r)), (3, .int (nI i)), (4, .int (bI (decide (kdT B t = 10)))), (6, .int (nI q))]) hE.1 hE.2.1 dX4_readCell_103 hl (by decide) rfl (fun ls hl => ?_)
            refine lv_aload_n hE.1 hE.2.1 dX4_readCell_105 rfl (lv_at hl 2 rfl) ?_
            refine rg_getr hE hH cf_X4 fl_X4_12 rfl (hX.1.1) (hX.1.2) (v := 103) (hX.2.2.2.2.2.2.1) dX4_readCell_106 ?_
            refine rg_VV (As := []) (rest := []) hE hml hH mc_X4_66 (c_Lx_next l z G hX iv67 jv67 B n t5 hR (fr_ne hf0)) (hX.2.1.1) (hX.2.1.2) (by decide) rfl ⟨Nat.le_of_ble_eq_true rfl, Nat.le_of_ble_eq_true rfl⟩ rfl hl.1 (by simp [Value.category]) dX4_readCell_109 ⟨Nat.le_of_ble_eq_true rfl, Nat.le_of_ble_eq_true rfl⟩ (fun G109 iv109 jv109 H locs hp109 hH => ?_)
            obtain ⟨rfl, hR, hF109, hJ109⟩ := hp109
            have hJ109 : FrJ jv67 jv109 qZ := hJ109
            have hF109 : Fr iv67 iv109 pZ := hF109.mono (fun _ _ h => Or.inr h)
            have hFr := hFr.tr (hF109.mono (fun _ _ h => Or.inl h))
            have hFj := hFj.tr (hJ109.mono (fun _ _ h => h))
            have hV := hV.fr hF109 hJ109 (by simp only [pZ]; omega) (fun v => by simp only [qZ]; omega)
            have hx : iv109 (r + 1) (k * 5 + i) = nI x := (hF109 _ _ (by simp only [pZ]; omega)).trans hx
            have h0 : iv109 r 0 = nI k := (hF109 _ _ (by simp only [pZ]; omega)).trans h0
            refine lv_iload hE.1 hE.2.1 dX4_readCell_112 (lv_at hl 6 rfl) ?_
            refine rn_ifb_ne (tgt := 129) hE dX4_readCell_114 (by decide) (fun c114 => ?_) (fun c114 => ?_)
            · exact absurd (of_decide_eq_true c114) hn10
            · refine lv_aload_n hE.1 hE.2.1 dX4_readCell_117 rfl (lv_at hl 2 rfl) ?_
              refine rg_getr hE hH cf_X4 fl_X4_12 rfl (hX.1.1) (hX.1.2) (v := 103) (hX.2.2.2.2.2.2.1) dX4_readCell_118 ?_
              refine rg_geti hE hH cf_X2 fl_X4_59 rfl (hX.2.1.1) (hX.2.1.2) (v := nI (kdT B (nx B n t5))) (hR.kd) dX4_readCell_121 ?_
              refine lv_bipush (v := nI 9) hE.1 hE.2.1 dX4_readCell_124 (by decide) ?_
              refine rn_icmp_eq (tgt := 150) hE dX4_readCell_126 (by decide) (by have := hR.k16; omega) (by have := hR.k16; omega) (fun c126 => ?_) (fun c126 => ?_)
              · have h47 := (kd_sg (c := 47) hR.tv (by decide)).mp c126
                rw [if_pos h47] at hf
                refine lv_aload_n hE.1 hE.2.1 dX4_readCell_150 rfl (lv_at hl 2 rfl) ?_
                refine rg_getr hE hH cf_X4 fl_X4_12 rfl (hX.1.1) (hX.1.2) (v := 103) (hX.2.2.2.2.2.2.1) dX4_readCell_151 ?_
                refine rg_VV (As := []) (rest := []) hE hml hH mc_X4_66 (c_Lx_next l z G hX iv109 jv109 B n (nx B n t5) hR (nx_ne hR.tv c126 (by decide))) (hX.2.1.1) (hX.2.1.2) (by decide) rfl ⟨Nat.le_of_ble_eq_true rfl, Nat.le_of_ble_eq_true rfl⟩ rfl hl.1 (by simp [Value.category]) dX4_readCell_154 ⟨Nat.le_of_ble_eq_true rfl, Nat.le_of_ble_eq_true rfl⟩ (fun G154 iv154 jv154 H locs hp154 hH => ?_)
                obtain ⟨rfl, hR, hF154, hJ154⟩ := hp154
                have hJ154 : FrJ jv109 jv154 qZ := hJ154
                have hF154 : Fr iv109 iv154 pZ := hF154.mono (fun _ _ h => Or.inr h)
                have hFr := hFr.tr (hF154.mono (fun _ _ h => Or.inl h))
                have hFj := hFj.tr (hJ154.mono (fun _ _ h => h))
                have hV := hV.fr hF154 hJ154 (by simp only [pZ]; omega) (fun v => by simp only [qZ]; omega)
                have hx : iv154 (r + 1) (k * 5 + i) = nI x := (hF154 _ _ (by simp only [pZ]; omega)).trans hx
                have h0 : iv154 r 0 = nI k := (hF154 _ _ (by simp only [pZ]; omega)).trans h0
                refine lv_iinc (v := nI (q + 1)) (lv' := [(6, .int (nI (q + 1))), (5, .int (nI (b ||| 2 ^ v))), (7, .int (nI v)), (0, .ref (G.ad 102)), (1, .ref (G.ad c)), (2, .ref (G.ad r)), (3, .int (nI i)), (4, .int (bI (decide (kdT B t = 10))))]) hE.1 hE.2.1 dX4_readCell_157 hl (k := 7) rfl (nI_1 _) (by decide) rfl (fun ls hl => ?_)
                refine lv_goto (tgt := 58) hE.1 hE.2.1 dX4_readCell_160 (by decide) ?_
                exact ih58 (iv154, jv154, b ||| 2 ^ v, q + 1, nx B n (nx B n t5)) _ _ _ (show 64 - (b ||| 2 ^ v) < 64 - b by have := hbo.2.2 c87; omega) ⟨hR, hV, hx, h0, hbo.2.1, by show q + 1 = _; rw [hqp]; exact (hps c87).1.symm, by show q + 1 ≤ 6; have := (hps c87).2; omega, ⟨f, by have := hbo.2.2 c87; dsimp only; omega, hf⟩, hFr, hFj⟩ (lv_sub hl [3, 4, 5, 6, 7, 1, 0] rfl) hH
              · rw [if_neg (fun h => c126 ((kd_sg (c := 47) hR.tv (by decide)).mpr h))] at hf
                refine lv_aload_n hE.1 hE.2.1 dX4_readCell_129 rfl (lv_at hl 4 rfl) ?_
                refine lv_iload_n hE.1 hE.2.1 dX4_readCell_130 rfl (lv_at hl 5 rfl) ?_
                refine lv_iload hE.1 hE.2.1 dX4_readCell_131 (lv_at hl 6 rfl) ?_
                refine rn_ifb_eq (tgt := 143) hE dX4_readCell_133 (by decide) (fun c133 => ?_) (fun c133 => ?_)
                · refine lv_iload hE.1 hE.2.1 dX4_readCell_143 (lv_at hl 0 rfl) ?_
                  refine rg_VV (As := [.int (nI i), .int (nI (b ||| 2 ^ v))]) (rest := []) hE hml hH mc_X4_144 (c_Ro_narrow l z G iv109 jv109 r hRo k i (nI (b ||| 2 ^ v)) hk hi h0) (hRo.1.1) (hRo.1.2) (by decide) rfl ⟨Nat.le_of_ble_eq_true rfl, Nat.le_of_ble_eq_true rfl⟩ rfl hl.1 (by simp [Value.category]) dX4_readCell_145 ⟨Nat.le_of_ble_eq_true rfl, Nat.le_of_ble_eq_true rfl⟩ (fun G145 iv145 jv145 H locs hp145 hH => ?_)
                  obtain ⟨rfl, hiv145, rfl⟩ := hp145
                  have hFn : Fr iv109 iv145 (fun lb j => lb = r + 1 ∧ j = k * 5 + i) := by rw [hiv145]; exact Fr.up Fr.rf ⟨rfl, rfl⟩
                  have hFr := hFr.tr (hFn.mono (P' := pRc r k i) (fun lb j h => Or.inr h))
                  have hR := hR.fr (Q := fun _ _ => False) hFn FrJ.rf (fun j => by omega) (fun j => by omega) (fun j => by omega) (fun j h => h) (fun h => h)
                  have hce : iv145 (r + 1) (k * 5 + i) = nI (x &&& (b ||| 2 ^ v)) := by rw [hiv145, up2_s, hx]; exact nI_and6 x hx64 _ hbo.2.1
                  refine lv_iconst (v := nI 1) hE.1 hE.2.1 dX4_readCell_148 (by decide) ?_
                  exact rg_iret hE hr (nz_1) hlk hH ⟨rfl, one_bI (by rw [hcl, ← hf]; rfl), by rw [hcl, ← hf]; exact hR, fun h => absurd (by rw [hcl, ← hf]) h, fun _ => ⟨b ||| 2 ^ v, by rw [hcl, ← hf]; exact ⟨hbo.2.1, fun _ _ => rfl⟩, hce⟩, hFr, hFj⟩ dX4_readCell_149
                · exact absurd (of_decide_eq_true c133) hn10
          · rw [bit_t0 b hb64 v hv6] at c87
            rw [if_pos (by simpa using c87)] at hf
            refine lv_aload_n hE.1 hE.2.1 dX4_readCell_90 rfl (lv_at hl 1 rfl) ?_
            refine lv_iconst (v := nI 4) hE.1 hE.2.1 dX4_readCell_91 (by decide) ?_
            refine rg_VI (As := [.int (nI 4)]) (rest := []) hE hml hH mc_X4_62 (c_Pa_refuse l z G hX iv67 jv67 4) (hX.1.1) (hX.1.2) (by decide) rfl ⟨Nat.le_of_ble_eq_true rfl, Nat.le_of_ble_eq_true rfl⟩ rfl hl.1 (by simp [Value.category]) dX4_readCell_92 ⟨Nat.le_of_ble_eq_true rfl, Nat.le_of_ble_eq_true rfl⟩ (fun r92 G92 iv92 jv92 H locs hp92 hH => ?_)
            obtain ⟨rfl, hiv92, rfl, rfl⟩ := hp92
            have hF92 : Fr iv67 iv92 pZ := by rw [hiv92]; exact Fr.up Fr.rf (Or.inl ⟨rfl, rfl⟩)
            have hFr := hFr.tr (hF92.mono (fun _ _ h => Or.inl h))
            have hR : LR iv92 jv67 B n t5 := by rw [hiv92]; exact hR.up (by decide) (by decide) (by decide)
            have hfd : iv92 102 1 = nI 4 := by rw [hiv92]; rfl
            exact rg_iret hE hr (nz_0) hlk hH ⟨rfl, zero_bI (by rw [hcl, ← hf]; exact decide_eq_false (by simp)), by rw [hcl, ← hf]; exact hR, fun _ => by rw [hcl, ← hf]; exact hfd, fun h => absurd (by rw [hcl, ← hf] at h; exact h) (by simp), hFr, hFj⟩ dX4_readCell_95
        · have hth : (tH B vs (t5)).1 ≠ 0 := by
            rcases tH_c (B := B) (vs := vs) (t := t5) with ⟨v, hvl, _, _, h⟩ | h
            · rw [h] at c75; exact absurd c75 (nI_ne_m1 (by have := hV.2.1; omega))
            · exact h.1
          rw [rdBits_tH hth] at hf
          refine lv_iconst (v := nI 0) hE.1 hE.2.1 dX4_readCell_78 (by decide) ?_
          exact rg_iret hE hr (nz_0) hlk hH ⟨rfl, zero_bI (by rw [hcl, ← hf]; exact decide_eq_false hth), by rw [hcl, ← hf]; exact hR, fun _ => by rw [hcl, ← hf]; exact hfd67 hth, fun h => absurd (by rw [hcl, ← hf] at h; exact h) hth, hFr, hFj⟩ dX4_readCell_79
    · have h10 := of_decide_eq_true c42
      have h33 := (kd_sg (c := 33) hR.tv (by decide)).mp h10
      have hcl : rdCell B n vs 0 t = (if (rdV B n vs 0 (nx B n t)).1 ≠ 0 then ((rdV B n vs 0 (nx B n t)).1, 0, (rdV B n vs 0 (nx B n t)).2.2) else (0, 2 ^ vs.length - 1 - 2 ^ (rdV B n vs 0 (nx B n t)).2.1, (rdV B n vs 0 (nx B n t)).2.2)) := by rw [rdCell, if_neg (by simp), if_neg hn42, if_pos h33]
      refine lv_aload_n hE.1 hE.2.1 dX4_readCell_45 rfl (lv_at hl 1 rfl) ?_
      refine rg_getr hE hH cf_X4 fl_X4_12 rfl (hX.1.1) (hX.1.2) (v := 103) (hX.2.2.2.2.2.2.1) dX4_readCell_46 ?_
      refine rg_VV (As := []) (rest := []) hE hml hH mc_X4_66 (c_Lx_next l z G hX iv jv B n t hR (nx_ne hR.tv h10 (by decide))) (hX.2.1.1) (hX.2.1.2) (by decide) rfl ⟨Nat.le_of_ble_eq_true rfl, Nat.le_of_ble_eq_true rfl⟩ rfl hl.1 (by simp [Value.category]) dX4_readCell_49 ⟨Nat.le_of_ble_eq_true rfl, Nat.le_of_ble_eq_true rfl⟩ (fun G49 iv49 jv49 H locs hp49 hH => ?_)
      obtain ⟨rfl, hR, hF49, hJ49⟩ := hp49
      have hJ49 : FrJ jv jv49 qZ := hJ49
      have hF49 : Fr iv iv49 pZ := hF49.mono (fun _ _ h => Or.inr h)
      have hFr := hFr.tr (hF49.mono (fun _ _ h => Or.inl h))
      have hFj := hFj.tr (hJ49.mono (fun _ _ h => h))
      have hV := hV.fr hF49 hJ49 (by simp only [pZ]; omega) (fun v => by simp only [qZ]; omega)
      have hx : iv49 (r + 1) (k * 5 + i) = nI x := (hF49 _ _ (by simp only [pZ]; omega)).trans hx
      have h0 : iv49 r 0 = nI k := (hF49 _ _ (by simp only [pZ]; omega)).trans h0
      refine lv_iconst (v := nI 0) hE.1 hE.2.1 dX4_readCell_52 (by decide) ?_
      refine lv_istore (lv' := [(5, .int (nI 0)), (4, .int (bI (decide (kdT B t = 10)))), (0, .ref (G.ad 102)), (1, .ref (G.ad c)), (2, .ref (G.ad r)), (3, .int (nI i))]) hE.1 hE.2.1 dX4_readCell_53 hl (by decide) rfl (fun ls hl => ?_)
      refine lv_iconst (v := nI 0) hE.1 hE.2.1 dX4_readCell_55 (by decide) ?_
      refine lv_istore (lv' := [(6, .int (nI 0)), (5, .int (nI 0)), (4, .int (bI (decide (kdT B t = 10)))), (0, .ref (G.ad 102)), (1, .ref (G.ad c)), (2, .ref (G.ad r)), (3, .int (nI i))]) hE.1 hE.2.1 dX4_readCell_56 hl (by decide) rfl (fun ls hl => ?_)
      refine lv_iload hE.1 hE.2.1 dX4_readCell_58 (lv_at hl 0 rfl) ?_
      refine lv_bipush (v := nI 6) hE.1 hE.2.1 dX4_readCell_60 (by decide) ?_
      refine rn_icmp_gt (tgt := 163) hE dX4_readCell_62 (by decide) (by omega) (by omega) (fun c62 => ?_) (fun c62 => ?_)
      · omega
      · refine lv_aload_n hE.1 hE.2.1 dX4_readCell_65 rfl (lv_at hl 3 rfl) ?_
        refine lv_aload_n hE.1 hE.2.1 dX4_readCell_66 rfl (lv_at hl 4 rfl) ?_
        refine rg_VI (As := [.ref (G.ad c)]) (rest := []) hE hml hH mc_X4_136 (c_Pa_told l z G hX iv49 jv49 B n (nx B n t) hR c hC hc vs hV) (hX.1.1) (hX.1.2) (by decide) rfl ⟨Nat.le_of_ble_eq_true rfl, Nat.le_of_ble_eq_true rfl⟩ rfl hl.1 (by simp [Value.category]) dX4_readCell_67 ⟨Nat.le_of_ble_eq_true rfl, Nat.le_of_ble_eq_true rfl⟩ (fun r67 G67 iv67 jv67 H locs hp67 hH => ?_)
        obtain ⟨rfl, rfl, hR, hfd67, hF67, hJ67⟩ := hp67
        have hFr := hFr.tr (hF67.mono (fun _ _ h => Or.inl h))
        have hFj := hFj.tr (hJ67.mono (fun _ _ h => h))
        have hV := hV.fr hF67 hJ67 (by simp only [pZ]; omega) (fun v => by simp only [qZ]; omega)
        have hx : iv67 (r + 1) (k * 5 + i) = nI x := (hF67 _ _ (by simp only [pZ]; omega)).trans hx
        have h0 : iv67 r 0 = nI k := (hF67 _ _ (by simp only [pZ]; omega)).trans h0
        refine lv_istore (lv' := [(7, .int (oI (tH B vs (nx B n t)).2)), (6, .int (nI 0)), (5, .int (nI 0)), (4, .int (bI (decide (kdT B t = 10)))), (0, .ref (G.ad 102)), (1, .ref (G.ad c)), (2, .ref (G.ad r)), (3, .int (nI i))]) hE.1 hE.2.1 dX4_readCell_70 hl (by decide) rfl (fun ls hl => ?_)
        refine lv_iload hE.1 hE.2.1 dX4_readCell_72 (lv_at hl 0 rfl) ?_
        refine lv_iconst (v := -1) hE.1 hE.2.1 dX4_readCell_74 (by decide) ?_
        refine lv_icmp_ne (tgt := 80) hE.1 hE.2.1 dX4_readCell_75 (by decide) (fun c75 => ?_) (fun c75 => ?_)
        · obtain ⟨v, hvl, hf0, hix, hth⟩ : ∃ v, v < vs.length ∧ frF B (nx B n t) = 0 ∧ ixW vs (wd B (nx B n t)) = some v ∧ tH B vs (nx B n t) = (0, some v) := by
            rcases tH_c (B := B) (vs := vs) (t := nx B n t) with h | h
            · exact h
            · rw [h.2.1] at c75; exact absurd rfl c75
          have hv6 : v < 6 := by have := hV.2.1; omega
          rw [rdV_tS hf0 hix, if_neg (by simp)] at hcl
          have hbo := bit_or 0 (by decide) v hv6
          have hl : lv_has ls 8 [(7, .int (nI v)), (6, .int (nI 0)), (5, .int (nI 0)), (4, .int (bI (decide (kdT B t = 10)))), (0, .ref (G.ad 102)), (1, .ref (G.ad c)), (2, .ref (G.ad r)), (3, .int (nI i))] := by rw [hth] at hl; exact hl
          refine lv_iload hE.1 hE.2.1 dX4_readCell_80 (lv_at hl 2 rfl) ?_
          refine lv_iload hE.1 hE.2.1 dX4_readCell_82 (lv_at hl 0 rfl) ?_
          refine lv_ishr hE.1 hE.2.1 dX4_readCell_84 ?_
          refine lv_iconst (v := nI 1) hE.1 hE.2.1 dX4_readCell_85 (by decide) ?_
          refine lv_iand hE.1 hE.2.1 dX4_readCell_86 ?_
          refine lv_if_eq (tgt := 96) hE.1 hE.2.1 dX4_readCell_87 (by decide) (fun c87 => ?_) (fun c87 => ?_)
          · refine lv_iload hE.1 hE.2.1 dX4_readCell_96 (lv_at hl 2 rfl) ?_
            refine lv_iconst (v := nI 1) hE.1 hE.2.1 dX4_readCell_98 (by decide) ?_
            refine lv_iload hE.1 hE.2.1 dX4_readCell_99 (lv_at hl 0 rfl) ?_
            refine lv_ishl hE.1 hE.2.1 dX4_readCell_101 ?_
            refine lv_ior hE.1 hE.2.1 dX4_readCell_102 ?_
            refine rn_as (v' := nI (0 ||| 2 ^ v)) (hbo.1) ?_
            refine lv_istore (lv' := [(5, .int (nI (0 ||| 2 ^ v))), (7, .int (nI v)), (6, .int (nI 0)), (4, .int (bI (decide (kdT B t = 10)))), (0, .ref (G.ad 102)), (1, .ref (G.ad c)), (2, .ref (G.ad r)), (3, .int (nI i))]) hE.1 hE.2.1 dX4_readCell_103 hl (by decide) rfl (fun ls hl => ?_)
            refine lv_aload_n hE.1 hE.2.1 dX4_readCell_105 rfl (lv_at hl 4 rfl) ?_
            refine rg_getr hE hH cf_X4 fl_X4_12 rfl (hX.1.1) (hX.1.2) (v := 103) (hX.2.2.2.2.2.2.1) dX4_readCell_106 ?_
            refine rg_VV (As := []) (rest := []) hE hml hH mc_X4_66 (c_Lx_next l z G hX iv67 jv67 B n (nx B n t) hR (fr_ne hf0)) (hX.2.1.1) (hX.2.1.2) (by decide) rfl ⟨Nat.le_of_ble_eq_true rfl, Nat.le_of_ble_eq_true rfl⟩ rfl hl.1 (by simp [Value.category]) dX4_readCell_109 ⟨Nat.le_of_ble_eq_true rfl, Nat.le_of_ble_eq_true rfl⟩ (fun G109 iv109 jv109 H locs hp109 hH => ?_)
            obtain ⟨rfl, hR, hF109, hJ109⟩ := hp109
            have hJ109 : FrJ jv67 jv109 qZ := hJ109
            have hF109 : Fr iv67 iv109 pZ := hF109.mono (fun _ _ h => Or.inr h)
            have hFr := hFr.tr (hF109.mono (fun _ _ h => Or.inl h))
            have hFj := hFj.tr (hJ109.mono (fun _ _ h => h))
            have hV := hV.fr hF109 hJ109 (by simp only [pZ]; omega) (fun v => by simp only [qZ]; omega)
            have hx : iv109 (r + 1) (k * 5 + i) = nI x := (hF109 _ _ (by simp only [pZ]; omega)).trans hx
            have h0 : iv109 r 0 = nI k := (hF109 _ _ (by simp only [pZ]; omega)).trans h0
            refine lv_iload hE.1 hE.2.1 dX4_readCell_112 (lv_at hl 3 rfl) ?_
            refine rn_ifb_ne (tgt := 129) hE dX4_readCell_114 (by decide) (fun c114 => ?_) (fun c114 => ?_)
            · refine lv_aload_n hE.1 hE.2.1 dX4_readCell_129 rfl (lv_at hl 6 rfl) ?_
              refine lv_iload_n hE.1 hE.2.1 dX4_readCell_130 rfl (lv_at hl 7 rfl) ?_
              refine lv_iload hE.1 hE.2.1 dX4_readCell_131 (lv_at hl 3 rfl) ?_
              refine rn_ifb_eq (tgt := 143) hE dX4_readCell_133 (by decide) (fun c133 => ?_) (fun c133 => ?_)
              · exact absurd h10 (of_decide_eq_false c133)
              · refine lv_iload hE.1 hE.2.1 dX4_readCell_136 (lv_at hl 0 rfl) ?_
                refine lv_iconst (v := -1) hE.1 hE.2.1 dX4_readCell_138 (by decide) ?_
                refine lv_ixor hE.1 hE.2.1 dX4_readCell_139 ?_
                refine lv_goto (tgt := 145) hE.1 hE.2.1 dX4_readCell_140 (by decide) ?_
                refine rg_VV (As := [.int (nI i), .int ((nI (0 ||| 2 ^ v)) ^^^ (-1))]) (rest := []) hE hml hH mc_X4_144 (c_Ro_narrow l z G iv109 jv109 r hRo k i (nI (0 ||| 2 ^ v) ^^^ -1) hk hi h0) (hRo.1.1) (hRo.1.2) (by decide) rfl ⟨Nat.le_of_ble_eq_true rfl, Nat.le_of_ble_eq_true rfl⟩ rfl hl.1 (by simp [Value.category]) dX4_readCell_145 ⟨Nat.le_of_ble_eq_true rfl, Nat.le_of_ble_eq_true rfl⟩ (fun G145 iv145 jv145 H locs hp145 hH => ?_)
                obtain ⟨rfl, hiv145, rfl⟩ := hp145
                have hFn : Fr iv109 iv145 (fun lb j => lb = r + 1 ∧ j = k * 5 + i) := by rw [hiv145]; exact Fr.up Fr.rf ⟨rfl, rfl⟩
                have hFr := hFr.tr (hFn.mono (P' := pRc r k i) (fun lb j h => Or.inr h))
                have hR := hR.fr (Q := fun _ _ => False) hFn FrJ.rf (fun j => by omega) (fun j => by omega) (fun j => by omega) (fun j h => h) (fun h => h)
                have hce : iv145 (r + 1) (k * 5 + i) = nI (x &&& (63 - 2 ^ v)) := by rw [hiv145, up2_s, hx]; exact nI_not6 x hx64 v hv6
                refine lv_iconst (v := nI 1) hE.1 hE.2.1 dX4_readCell_148 (by decide) ?_
                exact rg_iret hE hr (nz_1) hlk hH ⟨rfl, one_bI (by rw [hcl]; rfl), by rw [hcl]; exact hR, fun h => absurd (by rw [hcl]) h, fun _ => ⟨63 - 2 ^ v, by rw [hcl]; exact ⟨(show ∀ a : Nat, 63 - a < 64 by omega) _, fun u hu => mk_bang vs.length hV.2.1 v hvl u hu⟩, hce⟩, hFr, hFj⟩ dX4_readCell_149
            · exact absurd h10 (of_decide_eq_false c114)
          · exact absurd ((bit_t0 0 (by decide) v hv6).mpr (Nat.zero_testBit v)) c87
        · have hth : (tH B vs (nx B n t)).1 ≠ 0 := by
            rcases tH_c (B := B) (vs := vs) (t := nx B n t) with ⟨v, hvl, _, _, h⟩ | h
            · rw [h] at c75; exact absurd c75 (nI_ne_m1 (by have := hV.2.1; omega))
            · exact h.1
          rw [rdV_tH hth, if_pos hth] at hcl
          refine lv_iconst (v := nI 0) hE.1 hE.2.1 dX4_readCell_78 (by decide) ?_
          exact rg_iret hE hr (nz_0) hlk hH ⟨rfl, zero_bI (by rw [hcl]; exact decide_eq_false hth), by rw [hcl]; exact hR, fun _ => by rw [hcl]; exact hfd67 hth, fun h => absurd (by rw [hcl] at h; exact h) hth, hFr, hFj⟩ dX4_readCell_79
  · have h42 := (kd_sg (c := 42) hR.tv (by decide)).mp c9
    have hcl : rdCell B n vs 0 t = (0, 2 ^ vs.length - 1, nx B n t) := by rw [rdCell, if_neg (by simp), if_pos h42]
    refine lv_aload_n hE.1 hE.2.1 dX4_readCell_12 rfl (lv_at hl 0 rfl) ?_
    refine rg_getr hE hH cf_X4 fl_X4_12 rfl (hX.1.1) (hX.1.2) (v := 103) (hX.2.2.2.2.2.2.1) dX4_readCell_13 ?_
    refine rg_VV (As := []) (rest := []) hE hml hH mc_X4_66 (c_Lx_next l z G hX iv jv B n t hR (nx_ne hR.tv c9 (by decide))) (hX.2.1.1) (hX.2.1.2) (by decide) rfl ⟨Nat.le_of_ble_eq_true rfl, Nat.le_of_ble_eq_true rfl⟩ rfl hl.1 (by simp [Value.category]) dX4_readCell_16 ⟨Nat.le_of_ble_eq_true rfl, Nat.le_of_ble_eq_true rfl⟩ (fun G16 iv16 jv16 H locs hp16 hH => ?_)
    obtain ⟨rfl, hR, hF16, hJ16⟩ := hp16
    have hJ16 : FrJ jv jv16 qZ := hJ16
    have hF16 : Fr iv iv16 pZ := hF16.mono (fun _ _ h => Or.inr h)
    have hFr := hFr.tr (hF16.mono (fun _ _ h => Or.inl h))
    have hFj := hFj.tr (hJ16.mono (fun _ _ h => h))
    have hV := hV.fr hF16 hJ16 (by simp only [pZ]; omega) (fun v => by simp only [qZ]; omega)
    have hx : iv16 (r + 1) (k * 5 + i) = nI x := (hF16 _ _ (by simp only [pZ]; omega)).trans hx
    have h0 : iv16 r 0 = nI k := (hF16 _ _ (by simp only [pZ]; omega)).trans h0
    refine lv_iconst (v := nI 1) hE.1 hE.2.1 dX4_readCell_19 (by decide) ?_
    exact rg_iret hE hr (nz_1) hlk hH ⟨rfl, one_bI (by rw [hcl]; rfl), by rw [hcl]; exact hR, fun h => absurd (by rw [hcl]) h, fun _ => ⟨63, by rw [hcl]; exact ⟨by decide, fun v hv => mk_star vs.length hV.2.1 v hv⟩, by rw [and63 x hx64]; exact hx⟩, hFr, hFj⟩ dX4_readCell_20
