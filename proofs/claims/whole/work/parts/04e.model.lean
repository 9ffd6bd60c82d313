set_option maxRecDepth 100000 in
set_option maxHeartbeats 4000000 in
theorem c_table (l : Launch) (z : ZK) (G : GW) (hG : isM G) (iv : IV) (jv : JV) (a : AS) (hS : MSt iv a) (x : Int32) : cI l z yX11_table cX11_table 4 (some .int) 10 219 0 0 [.ref (G.ad 0), .int (x)] G iv jv (fun r G' iv' jv' => G = G' ∧ jv = jv' ∧ (iv' 0 0 = nI (spTable a x).1 ∧ r = (spTable a x).2.1 ∧ MSt iv' (spTable a x).2.2) ∧ Fr iv iv' pM) := by
  intro sz
  refine rg_entry rfl (Nat.le_of_ble_eq_true rfl) ?_
  intro pq eq sq mq bq methq cq ls hE hr hlk hml hnm hl hsz hH
  have hl : lv_has ls 4 [(0, .ref (G.ad 0)), (1, .int (x))] := hl
  refine lv_aload_n hE.1 hE.2.1 dX11_table_0 rfl (lv_at hl 0 rfl) ?_
  refine lv_iconst (v := nI 0) hE.1 hE.2.1 dX11_table_1 (by decide) ?_
  refine rm_puti hE hH hG fl_X11_96 rfl fn_X11_0 (v := nI 0) dX11_table_2 (fun H locs hH => ?_)
  have hF0 : Fr iv (up2 iv 0 0 (nI 0)) pM := up0_M
  have hS : MSt (up2 iv 0 0 (nI 0)) a := hS.c0
  have h00 : (up2 iv 0 0 (nI 0)) 0 0 = nI 0 := rfl
  generalize up2 iv 0 0 (nI 0) = iv1 at hH hS hF0 h00
  have hS6 := hS.2.2.1.2.1
  have hS12 := hS.2.2.2.1.2.1
  have hS3 := hS.1.2.1
  have hSo := hS.2.2.2.2.2.1
  refine lv_iload_n hE.1 hE.2.1 dX11_table_5 rfl (lv_at hl 1 rfl) ?_
  refine lv_if_lt (tgt := 17) hE.1 hE.2.1 dX11_table_6 (by decide) (fun c6 => ?_) (fun c6 => ?_)
  · refine lv_aload_n hE.1 hE.2.1 dX11_table_17 rfl (lv_at hl 0 rfl) ?_
    refine rg_VI (As := []) (rest := []) hE hml hH mc_X11_215 (c_fail l z G hG iv1 jv) hG.1.1 hG.1.2 (by decide) rfl ⟨Nat.le_of_ble_eq_true rfl, Nat.le_of_ble_eq_true rfl⟩ rfl hl.1 (by simp [Value.category]) dX11_table_18 ⟨Nat.le_of_ble_eq_true rfl, Nat.le_of_ble_eq_true rfl⟩ (fun r18 G18 iv18 jv18 H locs hp18 hH => ?_)
    obtain ⟨rfl, rfl, rfl, rfl⟩ := hp18
    exact rg_iret hE hr rfl hlk hH ⟨rfl, rfl, by rw [show spTable a x = no 1 a by rw [spTable, onK_f (inI_lt c6)]]; exact ⟨rfl, rfl, hS.c0⟩, hF0.tr up0_M⟩ dX11_table_21
  · refine lv_iload_n hE.1 hE.2.1 dX11_table_9 rfl (lv_at hl 1 rfl) ?_
    refine lv_aload_n hE.1 hE.2.1 dX11_table_10 rfl (lv_at hl 0 rfl) ?_
    refine rm_geti hE hH hG fl_X11_102 rfl (v := nI (aN a)) (hS.1.1) dX11_table_11 ?_
    refine lv_icmp_le (tgt := 22) hE.1 hE.2.1 dX11_table_14 (by decide) (fun c14 => ?_) (fun c14 => ?_)
    · obtain ⟨n, hnl, rfl⟩ := inI_of (by omega) (inI_le (by omega) c6 c14)
      refine lv_aload_n hE.1 hE.2.1 dX11_table_22 rfl (lv_at hl 0 rfl) ?_
      refine lv_iconst (v := nI 0) hE.1 hE.2.1 dX11_table_23 (by decide) ?_
      refine rm_puti hE hH hG fl_X11_102 rfl fn_X11_3 (v := nI 0) dX11_table_24 (fun H locs hH => ?_)
      refine lv_aload_n hE.1 hE.2.1 dX11_table_27 rfl (lv_at hl 0 rfl) ?_
      refine lv_iconst (v := -1) hE.1 hE.2.1 dX11_table_28 (by decide) ?_
      refine rm_puti hE hH hG fl_X11_16 rfl fn_X11_5 (v := -1) dX11_table_29 (fun H locs hH => ?_)
      refine lv_aload_n hE.1 hE.2.1 dX11_table_32 rfl (lv_at hl 0 rfl) ?_
      refine rm_geti hE hH hG fl_X11_99 rfl (v := nI ((aT a).length)) (hS.2.2.1.1) dX11_table_33 ?_
      refine lv_bipush (v := nI 6) hE.1 hE.2.1 dX11_table_36 (by decide) ?_
      refine rn_icmp_ne (tgt := 44) hE dX11_table_38 (by decide) (by omega) (by omega) (fun c38 => ?_) (fun c38 => ?_)
      · refine lv_aload_n hE.1 hE.2.1 dX11_table_44 rfl (lv_at hl 0 rfl) ?_
        refine lv_iload_n hE.1 hE.2.1 dX11_table_45 rfl (lv_at hl 1 rfl) ?_
        refine rm_puti hE hH hG fl_X11_105 rfl fn_X11_30 (v := nI n) dX11_table_46 (fun H locs hH => ?_)
        refine lv_aload_n hE.1 hE.2.1 dX11_table_49 rfl (lv_at hl 0 rfl) ?_
        refine lv_iconst (v := nI 0) hE.1 hE.2.1 dX11_table_50 (by decide) ?_
        refine rm_puti hE hH hG fl_X11_108 rfl fn_X11_29 (v := nI 0) dX11_table_51 (fun H locs hH => ?_)
        refine lv_aload_n hE.1 hE.2.1 dX11_table_54 rfl (lv_at hl 0 rfl) ?_
        refine lv_iconst (v := nI 0) hE.1 hE.2.1 dX11_table_55 (by decide) ?_
        refine rm_puti hE hH hG fl_X11_131 rfl fn_X11_35 (v := nI 0) dX11_table_56 (fun H locs hH => ?_)
        have hX : TX (up2 (up2 (up2 (up2 (up2 iv1 0 3 (nI 0)) 0 5 (-1)) 0 30 (nI n)) 0 29 (nI 0)) 0 35 (nI 0)) (aY a) n := ⟨by omega, rfl, fun k hk => hS.1.2.2.1 k (by omega), fun k hk => hS.1.2.2.2 k (by omega)⟩
        have hFr : Fr iv1 (up2 (up2 (up2 (up2 (up2 iv1 0 3 (nI 0)) 0 5 (-1)) 0 30 (nI n)) 0 29 (nI 0)) 0 35 (nI 0)) (pU2 (aT a).length) := Fr.up (Fr.up (Fr.up (Fr.up (Fr.up Fr.rf (Or.inl ⟨rfl, Or.inl rfl⟩)) (Or.inl ⟨rfl, Or.inr (Or.inl rfl)⟩)) (Or.inl ⟨rfl, Or.inr (Or.inr ⟨by decide, by decide⟩)⟩)) (Or.inl ⟨rfl, Or.inr (Or.inr ⟨by decide, by decide⟩)⟩)) (Or.inl ⟨rfl, Or.inr (Or.inr ⟨by decide, by decide⟩)⟩)
        have h6x : (up2 (up2 (up2 (up2 (up2 iv1 0 3 (nI 0)) 0 5 (-1)) 0 30 (nI n)) 0 29 (nI 0)) 0 35 (nI 0)) 0 6 = nI (aT a).length := hS.2.2.1.1
        have h3x : (up2 (up2 (up2 (up2 (up2 iv1 0 3 (nI 0)) 0 5 (-1)) 0 30 (nI n)) 0 29 (nI 0)) 0 35 (nI 0)) 0 3 = nI 0 := rfl
        have h5x : (up2 (up2 (up2 (up2 (up2 iv1 0 3 (nI 0)) 0 5 (-1)) 0 30 (nI n)) 0 29 (nI 0)) 0 35 (nI 0)) 0 5 = -1 := rfl
        have hsp : spTable a (nI n) = (if (rdTable (aY a) n).1 ≠ 0 then ok (-1 - nI (rdTable (aY a) n).1) (0, aY a, nI (tb (rdTable (aY a) n).2.2), aT a, aP a, aO a) else ok (nI (aT a).length) (0, aY a, -1, aT a ++ [(rdTable (aY a) n).2.1], aP a, aO a)) := by rw [spTable, onK_t hnl (by omega), if_neg c38]
        refine lv_aload_n hE.1 hE.2.1 dX11_table_59 rfl (lv_at hl 0 rfl) ?_
        refine lv_aload_n hE.1 hE.2.1 dX11_table_60 rfl (lv_at hl 0 rfl) ?_
        refine rm_geti hE hH hG fl_X11_99 rfl (v := nI ((aT a).length)) (hS.2.2.1.1) dX11_table_61 ?_
        refine rg_VV (As := [.int (nI ((aT a).length))]) (rest := []) hE hml hH mc_X11_218 (c_readTable l z G hG (up2 (up2 (up2 (up2 (up2 iv1 0 3 (nI 0)) 0 5 (-1)) 0 30 (nI n)) 0 29 (nI 0)) 0 35 (nI 0)) jv (aY a) n (aT a).length (by omega) hX rfl rfl) hG.1.1 hG.1.2 (by decide) rfl ⟨Nat.le_of_ble_eq_true rfl, Nat.le_of_ble_eq_true rfl⟩ rfl hl.1 (by simp [Value.category]) dX11_table_64 ⟨Nat.le_of_ble_eq_true rfl, Nat.le_of_ble_eq_true rfl⟩ (fun G64 iv64 jv64 H locs hp64 hH => ?_)
        obtain ⟨rfl, rfl, ⟨hM, hTB⟩, hF64⟩ := hp64
        have hFr := hFr.tr (hF64.mono (fun lb j h => Or.inr (Or.inl h)))
        obtain ⟨-, -, -, -, -, hb64⟩ := hM.b
        refine lv_aload_n hE.1 hE.2.1 dX11_table_67 rfl (lv_at hl 0 rfl) ?_
        refine rm_geti hE hH hG fl_X11_131 rfl (v := nI ((rdTable (aY a) n).1)) (hM.2.2.2.1) dX11_table_68 ?_
        refine rn_if_eq (tgt := 89) hE dX11_table_71 (by decide) (by omega) (fun c71 => ?_) (fun c71 => ?_)
        · rw [if_neg (by simp [c71])] at hsp
          obtain ⟨hk, hTW⟩ := rdTable_ok c71
          have hTB := hTB c71
          obtain ⟨T, hTq⟩ : ∃ x, x = (aT a).length := ⟨_, rfl⟩
          have hT : T < 6 := by omega
          obtain ⟨tab, htab⟩ : ∃ x, x = (rdTable (aY a) n).2.1 := ⟨_, rfl⟩
          rw [← htab] at hk hTW hTB hsp
          have hB0 : TABL iv64 T tab := by rw [hTq]; exact hTB
          have h6y : iv64 0 6 = nI T := by rw [hTq]; exact (hF64 0 6 (by simp)).trans h6x
          refine lv_aload_n hE.1 hE.2.1 dX11_table_89 rfl (lv_at hl 0 rfl) ?_
          refine rm_geti hE hH hG fl_X11_99 rfl (v := nI T) (h6y) dX11_table_90 ?_
          refine lv_istore_n (lv' := [(2, .int (nI T)), (0, .ref (G.ad 0)), (1, .int (nI n))]) hE.1 hE.2.1 dX11_table_93 rfl hl (by decide) rfl (fun ls hl => ?_)
          refine lv_iconst (v := nI 0) hE.1 hE.2.1 dX11_table_94 (by decide) ?_
          refine lv_istore_n (lv' := [(3, .int (nI 0)), (2, .int (nI T)), (0, .ref (G.ad 0)), (1, .int (nI n))]) hE.1 hE.2.1 dX11_table_95 rfl hl (by decide) rfl (fun ls hl => ?_)
          refine rg_loop (σ := IV × Nat) (nL := 4) (fun (u : IV × Nat) => match u with | (iv2, c) => tC tab - c) (fun (u : IV × Nat) => match u with | (iv2, c) => [(0, .ref (G.ad 0)), (1, .int (nI n)), (2, .int (nI T)), (3, .int (nI c))]) (fun (u : IV × Nat) => match u with | (iv2, c) => G) (fun (u : IV × Nat) => match u with | (iv2, c) => iv2) (fun (u : IV × Nat) => match u with | (iv2, c) => jv) (fun (u : IV × Nat) => match u with | (iv2, c) => c ≤ tC tab ∧ (∀ d, d < c → iv2 15 (400 * T + d) = oI (frow tab d)) ∧ Fr iv64 iv2 (fun lb j => lb = 15 ∧ 400 * T ≤ j ∧ j < 400 * T + 400)) ?_ ((iv64, 0)) ⟨Nat.zero_le _, fun d hd => absurd hd (Nat.not_lt_zero d), Fr.rf⟩ (lv_sub hl [2, 3, 1, 0] rfl) hH
          rintro ⟨iv2, c⟩ H locs ls ⟨hcC, hAn, hFx⟩ hl hH ih96
          try dsimp only at hl hH ih96
          try dsimp only at hcC hAn hFx
          have hB := hB0.fr hFx (fun lb j _ _ => by omega)
          have h8 := hB.f.1
          have h10 := hB.f.2.1
          have h9 := hB.f.2.2.1
          have h13 := hB.f.2.2.2.1
          have h14 := hB.f.2.2.2.2.1
          have hm5 := hk.2.1
          have hm1 := hk.1
          have hC := hk.2.2.2.1
          have hR40 := hk.2.2.2.2.2.2.1
          refine lv_iload_n hE.1 hE.2.1 dX11_table_96 rfl (lv_at hl 3 rfl) ?_
          refine lv_aload_n hE.1 hE.2.1 dX11_table_97 rfl (lv_at hl 0 rfl) ?_
          refine lv_iload_n hE.1 hE.2.1 dX11_table_98 rfl (lv_at hl 2 rfl) ?_
          refine rg_VI (As := [.int (nI T)]) (rest := [.int (nI c)]) hE hml hH mc_X11_205 (c_casesOf l z G hG iv2 jv T (tm tab) hT hm5 (tf tab) h8 h10) hG.1.1 hG.1.2 (by decide) rfl ⟨Nat.le_of_ble_eq_true rfl, Nat.le_of_ble_eq_true rfl⟩ rfl hl.1 (by simp [Value.category]) dX11_table_99 ⟨Nat.le_of_ble_eq_true rfl, Nat.le_of_ble_eq_true rfl⟩ (fun r99 G99 iv99 jv99 H locs hp99 hH => ?_)
          obtain ⟨rfl, rfl, rfl, rfl⟩ := hp99
          refine rn_as (v' := nI (tC tab)) rfl ?_
          refine rn_icmp_ge (tgt := 130) hE dX11_table_102 (by decide) (by omega) (by omega) (fun c102 => ?_) (fun c102 => ?_)
          · refine lv_aload_n hE.1 hE.2.1 dX11_table_130 rfl (lv_at hl 0 rfl) ?_
            refine lv_dup hE.1 hE.2.1 dX11_table_131 rfl ?_
            refine rm_geti hE hH hG fl_X11_99 rfl (v := nI T) ((hFx 0 6 (by omega)).trans h6y) dX11_table_132 ?_
            refine lv_iconst (v := nI 1) hE.1 hE.2.1 dX11_table_135 (by decide) ?_
            refine rn_iadd hE dX11_table_136 ?_
            refine rm_puti hE hH hG fl_X11_99 rfl fn_X11_6 (v := nI (T + 1)) dX11_table_137 (fun H locs hH => ?_)
            refine lv_iload_n hE.1 hE.2.1 dX11_table_140 rfl (lv_at hl 2 rfl) ?_
            exact rg_iret hE hr rfl hlk hH ⟨rfl, rfl, by
              rw [hsp]
              have hce : c = tC tab := by omega
              have hFT : FT iv2 T tab := ⟨hB, hk, fun d hd => hAn d (by omega)⟩
              have hFy : Fr iv1 iv2 (pU2 (aT a).length) := hFr.tr (hFx.mono (fun lb j h => Or.inr (Or.inr (by rw [← hTq]; exact h))))
              have hFu : Fr iv2 (up2 iv2 0 6 (nI (T + 1))) (fun lb j => lb = 0 ∧ j = 6) := Fr.up Fr.rf ⟨rfl, rfl⟩
              refine ⟨(hFy 0 0 (pU2_0 (by decide))).trans h00, by rw [hTq]; rfl, ⟨⟨(hFx 0 3 (by omega)).trans ((hF64 0 3 (by simp)).trans h3x), Nat.zero_le _, fun k hk => absurd hk (Nat.not_lt_zero k), fun k hk => absurd hk (Nat.not_lt_zero k)⟩, (hFx 0 5 (by omega)).trans ((hF64 0 5 (by simp)).trans h5x), ?_, ?_, ?_⟩⟩
              · show mTb _ (aT a ++ [tab])
                rw [hTq] at hFT ⊢
                exact mTb.add (mTb.frT hS.2.2.1 (Nat.le_refl _) hFy) (by omega) hFT hTW
              · exact mPg.fr_len (mPg.fr (mPg.fr hS.2.2.2.1 hFy (pU2_0 (by decide)) (fun lb j h1 h2 => pU2_l (by omega) (by omega))) hFu (by omega) (fun lb j _ _ => by omega))
              · exact mOu.fr (mOu.fr hS.2.2.2.2 hFy (pU2_0 (by decide)) (fun k => pU2_l (by decide) (by decide))) hFu (by omega) (fun k => by omega), hF0.tr (Fr.up ((hFr.tr (hFx.mono (fun lb j h => Or.inr (Or.inr (by rw [← hTq]; exact h))))).mono (fun lb j h => pU2_M h)) (by simp))⟩ dX11_table_141
          · refine lv_aload_n hE.1 hE.2.1 dX11_table_105 rfl (lv_at hl 0 rfl) ?_
            refine rm_getr hE hH hG fl_X11_41 rfl (by decide) dX11_table_106 ?_
            refine lv_sipush (v := nI 400) hE.1 hE.2.1 dX11_table_109 (by decide) ?_
            refine lv_iload_n hE.1 hE.2.1 dX11_table_112 rfl (lv_at hl 2 rfl) ?_
            refine rn_imul hE dX11_table_113 ?_
            refine lv_iload_n hE.1 hE.2.1 dX11_table_114 rfl (lv_at hl 3 rfl) ?_
            refine rn_iadd hE dX11_table_115 ?_
            refine lv_aload_n hE.1 hE.2.1 dX11_table_116 rfl (lv_at hl 0 rfl) ?_
            refine lv_iload_n hE.1 hE.2.1 dX11_table_117 rfl (lv_at hl 2 rfl) ?_
            refine lv_iload_n hE.1 hE.2.1 dX11_table_118 rfl (lv_at hl 3 rfl) ?_
            refine lv_iconst (v := -1) hE.1 hE.2.1 dX11_table_119 (by decide) ?_
            refine rg_VI (As := [.int (nI T), .int (nI c), .int (-1)]) (rest := [.int (nI (400 * T + c)), .ref (G.ad 15)]) hE hml hH mc_X11_221 (c_firstRow l z G hG iv2 jv T hT tab hk hB c (-1) (by omega)) hG.1.1 hG.1.2 (by decide) rfl ⟨Nat.le_of_ble_eq_true rfl, Nat.le_of_ble_eq_true rfl⟩ rfl hl.1 (by simp [Value.category]) dX11_table_120 ⟨Nat.le_of_ble_eq_true rfl, Nat.le_of_ble_eq_true rfl⟩ (fun r120 G120 iv120 jv120 H locs hp120 hH => ?_)
            obtain ⟨rfl, rfl, rfl, rfl⟩ := hp120
            refine rn_as (v' := oI (frow tab c)) (by rw [frow_m1 (by omega)]) ?_
            refine rm_iast hE hH hG (k := 15) (by decide) rfl (N := 2400) rfl (n := 400 * T + c) (by omega) (v := oI (frow tab c)) dX11_table_123 (fun H locs hH => ?_)
            refine lv_iinc (v := nI (c + 1)) (lv' := [(3, .int (nI (c + 1))), (0, .ref (G.ad 0)), (1, .int (nI n)), (2, .int (nI T))]) hE.1 hE.2.1 dX11_table_124 hl (k := 3) rfl (nI_1 _) (by decide) rfl (fun ls hl => ?_)
            refine lv_goto (tgt := 96) hE.1 hE.2.1 dX11_table_127 (by decide) ?_
            exact ih96 (up2 iv2 15 (400 * T + c) (oI (frow tab c)), c + 1) _ _ _ (show tC tab - (c + 1) < tC tab - c by omega) ⟨by show c + 1 ≤ tC tab; omega, fun d hd => by
              dsimp only at hd ⊢
              by_cases hdc : d = c
              · subst hdc; exact up2_s
              · rw [up2_k (by omega)]; exact hAn d (by omega), Fr.up hFx ⟨rfl, by omega, by omega⟩⟩ (lv_sub hl [1, 2, 3, 0] rfl) hH
        · rw [if_pos c71] at hsp
          refine lv_aload_n hE.1 hE.2.1 dX11_table_74 rfl (lv_at hl 0 rfl) ?_
          refine lv_aload_n hE.1 hE.2.1 dX11_table_75 rfl (lv_at hl 0 rfl) ?_
          refine rm_geti hE hH hG fl_X11_134 rfl (v := nI (tb (rdTable (aY a) n).2.2)) (hM.2.2.2.2.2 c71) dX11_table_76 ?_
          refine rm_puti hE hH hG fl_X11_16 rfl fn_X11_5 (v := nI (tb (rdTable (aY a) n).2.2)) dX11_table_79 (fun H locs hH => ?_)
          refine lv_iconst (v := -1) hE.1 hE.2.1 dX11_table_82 (by decide) ?_
          refine lv_aload_n hE.1 hE.2.1 dX11_table_83 rfl (lv_at hl 0 rfl) ?_
          refine rm_geti hE hH hG fl_X11_131 rfl (v := nI ((rdTable (aY a) n).1)) (hM.2.2.2.1) dX11_table_84 ?_
          refine lv_isub hE.1 hE.2.1 dX11_table_87 ?_
          exact rg_iret hE hr rfl hlk hH ⟨rfl, rfl, by rw [hsp]; exact ⟨(hFr 0 0 (pU2_0 (by decide))).trans h00, rfl, ⟨⟨(hF64 0 3 (by simp)).trans h3x, Nat.zero_le _, fun k hk => absurd hk (Nat.not_lt_zero k), fun k hk => absurd hk (Nat.not_lt_zero k)⟩, rfl, mTb.frT hS.2.2.1 (Nat.le_refl _) (Fr.up hFr (Or.inl ⟨rfl, Or.inr (Or.inl rfl)⟩)), mPg.fr hS.2.2.2.1 (Fr.up hFr (Or.inl ⟨rfl, Or.inr (Or.inl rfl)⟩)) (pU2_0 (by decide)) (fun lb j h1 h2 => pU2_l (by omega) (by omega)), mOu.fr hS.2.2.2.2 (Fr.up hFr (Or.inl ⟨rfl, Or.inr (Or.inl rfl)⟩)) (pU2_0 (by decide)) (fun k => pU2_l (by decide) (by decide))⟩⟩, hF0.tr ((Fr.up hFr (Or.inl ⟨rfl, Or.inr (Or.inl rfl)⟩)).mono (fun lb j h => pU2_M h))⟩ dX11_table_88
      · refine lv_bipush (v := (-9)) hE.1 hE.2.1 dX11_table_41 (by decide) ?_
        exact rg_iret hE hr rfl hlk hH ⟨rfl, rfl, by rw [show spTable a (nI n) = ok (-9) (0, aY a, -1, aT a, aP a, aO a) by rw [spTable, onK_t hnl (by omega), if_pos c38]]; exact ⟨h00, rfl, hS.clr⟩, hF0.tr (Fr.up (Fr.up Fr.rf (by simp)) (by simp))⟩ dX11_table_43
    · refine lv_aload_n hE.1 hE.2.1 dX11_table_17 rfl (lv_at hl 0 rfl) ?_
      refine rg_VI (As := []) (rest := []) hE hml hH mc_X11_215 (c_fail l z G hG iv1 jv) hG.1.1 hG.1.2 (by decide) rfl ⟨Nat.le_of_ble_eq_true rfl, Nat.le_of_ble_eq_true rfl⟩ rfl hl.1 (by simp [Value.category]) dX11_table_18 ⟨Nat.le_of_ble_eq_true rfl, Nat.le_of_ble_eq_true rfl⟩ (fun r18 G18 iv18 jv18 H locs hp18 hH => ?_)
      obtain ⟨rfl, rfl, rfl, rfl⟩ := hp18
      exact rg_iret hE hr rfl hlk hH ⟨rfl, rfl, by rw [show spTable a x = no 1 a by rw [spTable, onK_f (inI_gt (by omega) c14)]]; exact ⟨rfl, rfl, hS.c0⟩, hF0.tr up0_M⟩ dX11_table_21
set_option maxRecDepth 100000 in
set_option maxHeartbeats 4000000 in
theorem c_program (l : Launch) (z : ZK) (G : GW) (hG : isM G) (iv : IV) (jv : JV) (a : AS) (hS : MSt iv a) (t x : Int32) : cI l z yX11_program cX11_program 3 (some .int) 11 244 0 0 [.ref (G.ad 0), .int (t), .int (x)] G iv jv (fun r G' iv' jv' => G = G' ∧ jv = jv' ∧ (iv' 0 0 = nI (spProgram a t x).1 ∧ r = (spProgram a t x).2.1 ∧ MSt iv' (spProgram a t x).2.2) ∧ Fr iv iv' pM) := by
  intro sz
  refine rg_entry rfl (Nat.le_of_ble_eq_true rfl) ?_
  intro pq eq sq mq bq methq cq ls hE hr hlk hml hnm hl hsz hH
  have hl : lv_has ls 3 [(0, .ref (G.ad 0)), (1, .int (t)), (2, .int (x))] := hl
  refine lv_aload_n hE.1 hE.2.1 dX11_program_0 rfl (lv_at hl 0 rfl) ?_
  refine lv_iconst (v := nI 0) hE.1 hE.2.1 dX11_program_1 (by decide) ?_
  refine rm_puti hE hH hG fl_X11_96 rfl fn_X11_0 (v := nI 0) dX11_program_2 (fun H locs hH => ?_)
  have hF0 : Fr iv (up2 iv 0 0 (nI 0)) pM := up0_M
  have hS : MSt (up2 iv 0 0 (nI 0)) a := hS.c0
  have h00 : (up2 iv 0 0 (nI 0)) 0 0 = nI 0 := rfl
  generalize up2 iv 0 0 (nI 0) = iv1 at hH hS hF0 h00
  have hS6 := hS.2.2.1.2.1
  have hS12 := hS.2.2.2.1.2.1
  have hS3 := hS.1.2.1
  have hSo := hS.2.2.2.2.2.1
  refine lv_aload_n hE.1 hE.2.1 dX11_program_5 rfl (lv_at hl 0 rfl) ?_
  refine lv_iload_n hE.1 hE.2.1 dX11_program_6 rfl (lv_at hl 1 rfl) ?_
  refine rg_VI (As := [.int (t)]) (rest := []) hE hml hH mc_X11_231 (c_isTable l z G hG iv1 jv t (aT a).length hS.2.2.1.1) hG.1.1 hG.1.2 (by decide) rfl ⟨Nat.le_of_ble_eq_true rfl, Nat.le_of_ble_eq_true rfl⟩ rfl hl.1 (by simp [Value.category]) dX11_program_7 ⟨Nat.le_of_ble_eq_true rfl, Nat.le_of_ble_eq_true rfl⟩ (fun r7 G7 iv7 jv7 H locs hp7 hH => ?_)
  obtain ⟨rfl, rfl, rfl, rfl⟩ := hp7
  refine rn_ifb_ne (tgt := 18) hE dX11_program_10 (by decide) (fun c10 => ?_) (fun c10 => ?_)
  · obtain ⟨T, hTl, rfl⟩ := inI_of (by omega) c10
    have hT : T < 6 := by omega
    obtain ⟨tab, htab⟩ : ∃ x, x = aTb a T := ⟨_, rfl⟩
    have hFT : FT iv1 T tab := by rw [htab]; exact (hS.2.2.1.2.2.1 T hTl).1
    have hTW : tabW tab := by rw [htab]; exact (hS.2.2.1.2.2.1 T hTl).2.1
    have hLD : LD iv1 T tab := by rw [htab]; exact (hS.2.2.1.2.2.1 T hTl).2.2
    have hB := hFT.1
    have hk := hFT.2.1
    have hA := hFT.2.2
    have h8 := hB.f.1
    have h10 := hB.f.2.1
    have h9 := hB.f.2.2.1
    have h13 := hB.f.2.2.2.1
    have h14 := hB.f.2.2.2.2.1
    have hm5 := hk.2.1
    have hm1 := hk.1
    have hC := hk.2.2.2.1
    have hR40 := hk.2.2.2.2.2.2.1
    refine lv_iload_n hE.1 hE.2.1 dX11_program_18 rfl (lv_at hl 2 rfl) ?_
    refine lv_if_lt (tgt := 30) hE.1 hE.2.1 dX11_program_19 (by decide) (fun c19 => ?_) (fun c19 => ?_)
    · refine lv_aload_n hE.1 hE.2.1 dX11_program_30 rfl (lv_at hl 0 rfl) ?_
      refine lv_iconst (v := nI 2) hE.1 hE.2.1 dX11_program_31 (by decide) ?_
      refine rm_puti hE hH hG fl_X11_96 rfl fn_X11_0 (v := nI 2) dX11_program_32 (fun H locs hH => ?_)
      refine lv_iconst (v := nI 0) hE.1 hE.2.1 dX11_program_35 (by decide) ?_
      exact rg_iret hE hr rfl hlk hH ⟨rfl, rfl, by rw [show spProgram a (nI T) x = no 2 a by rw [spProgram, onK_t hTl (by omega), onK_f (inI_lt c19)]]; exact ⟨rfl, rfl, hS.c0⟩, hF0.tr up0_M⟩ dX11_program_36
    · refine lv_iload_n hE.1 hE.2.1 dX11_program_22 rfl (lv_at hl 2 rfl) ?_
      refine lv_aload_n hE.1 hE.2.1 dX11_program_23 rfl (lv_at hl 0 rfl) ?_
      refine rm_geti hE hH hG fl_X11_102 rfl (v := nI (aN a)) (hS.1.1) dX11_program_24 ?_
      refine lv_icmp_le (tgt := 37) hE.1 hE.2.1 dX11_program_27 (by decide) (fun c27 => ?_) (fun c27 => ?_)
      · obtain ⟨n, hnl, rfl⟩ := inI_of (by omega) (inI_le (by omega) c19 c27)
        refine lv_aload_n hE.1 hE.2.1 dX11_program_37 rfl (lv_at hl 0 rfl) ?_
        refine lv_iconst (v := nI 0) hE.1 hE.2.1 dX11_program_38 (by decide) ?_
        refine rm_puti hE hH hG fl_X11_102 rfl fn_X11_3 (v := nI 0) dX11_program_39 (fun H locs hH => ?_)
        refine lv_aload_n hE.1 hE.2.1 dX11_program_42 rfl (lv_at hl 0 rfl) ?_
        refine lv_iconst (v := -1) hE.1 hE.2.1 dX11_program_43 (by decide) ?_
        refine rm_puti hE hH hG fl_X11_16 rfl fn_X11_5 (v := -1) dX11_program_44 (fun H locs hH => ?_)
        refine lv_aload_n hE.1 hE.2.1 dX11_program_47 rfl (lv_at hl 0 rfl) ?_
        refine rm_geti hE hH hG fl_X11_234 rfl (v := nI ((aP a).length)) (hS.2.2.2.1.1) dX11_program_48 ?_
        refine lv_bipush (v := nI 12) hE.1 hE.2.1 dX11_program_51 (by decide) ?_
        refine rn_icmp_ne (tgt := 59) hE dX11_program_53 (by decide) (by omega) (by omega) (fun c53 => ?_) (fun c53 => ?_)
        · refine lv_aload_n hE.1 hE.2.1 dX11_program_59 rfl (lv_at hl 0 rfl) ?_
          refine lv_iload_n hE.1 hE.2.1 dX11_program_60 rfl (lv_at hl 2 rfl) ?_
          refine rm_puti hE hH hG fl_X11_105 rfl fn_X11_30 (v := nI n) dX11_program_61 (fun H locs hH => ?_)
          refine lv_aload_n hE.1 hE.2.1 dX11_program_64 rfl (lv_at hl 0 rfl) ?_
          refine lv_iconst (v := nI 0) hE.1 hE.2.1 dX11_program_65 (by decide) ?_
          refine rm_puti hE hH hG fl_X11_108 rfl fn_X11_29 (v := nI 0) dX11_program_66 (fun H locs hH => ?_)
          refine lv_aload_n hE.1 hE.2.1 dX11_program_69 rfl (lv_at hl 0 rfl) ?_
          refine lv_iconst (v := nI 0) hE.1 hE.2.1 dX11_program_70 (by decide) ?_
          refine rm_puti hE hH hG fl_X11_131 rfl fn_X11_35 (v := nI 0) dX11_program_71 (fun H locs hH => ?_)
          have hX : TX (up2 (up2 (up2 (up2 (up2 iv1 0 3 (nI 0)) 0 5 (-1)) 0 30 (nI n)) 0 29 (nI 0)) 0 35 (nI 0)) (aY a) n := ⟨by omega, rfl, fun k hk => hS.1.2.2.1 k (by omega), fun k hk => hS.1.2.2.2 k (by omega)⟩
          have hFr : Fr iv1 (up2 (up2 (up2 (up2 (up2 iv1 0 3 (nI 0)) 0 5 (-1)) 0 30 (nI n)) 0 29 (nI 0)) 0 35 (nI 0)) (pU3 (aP a).length) := Fr.up (Fr.up (Fr.up (Fr.up (Fr.up Fr.rf (Or.inl ⟨rfl, Or.inl rfl⟩)) (Or.inl ⟨rfl, Or.inr (Or.inl rfl)⟩)) (Or.inl ⟨rfl, Or.inr (Or.inr ⟨by decide, by decide⟩)⟩)) (Or.inl ⟨rfl, Or.inr (Or.inr ⟨by decide, by decide⟩)⟩)) (Or.inl ⟨rfl, Or.inr (Or.inr ⟨by decide, by decide⟩)⟩)
          have h7x : (up2 (up2 (up2 (up2 (up2 iv1 0 3 (nI 0)) 0 5 (-1)) 0 30 (nI n)) 0 29 (nI 0)) 0 35 (nI 0)) 0 7 = nI (aP a).length := hS.2.2.2.1.1
          have h3x : (up2 (up2 (up2 (up2 (up2 iv1 0 3 (nI 0)) 0 5 (-1)) 0 30 (nI n)) 0 29 (nI 0)) 0 35 (nI 0)) 0 3 = nI 0 := rfl
          have h5x : (up2 (up2 (up2 (up2 (up2 iv1 0 3 (nI 0)) 0 5 (-1)) 0 30 (nI n)) 0 29 (nI 0)) 0 35 (nI 0)) 0 5 = -1 := rfl
          have hBx : TABL (up2 (up2 (up2 (up2 (up2 iv1 0 3 (nI 0)) 0 5 (-1)) 0 30 (nI n)) 0 29 (nI 0)) 0 35 (nI 0)) T tab := hB.fr hFr (fun lb j h1 h2 => pU3_l (by omega) (by omega))
          have hsp : spProgram a (nI T) (nI n) = (if (rdProg (aY a) n tab).1 ≠ 0 then ok (-1 - nI (rdProg (aY a) n tab).1) (0, aY a, nI (tb (rdProg (aY a) n tab).2.2), aT a, aP a, aO a) else ok (nI (aP a).length) (0, aY a, -1, aT a, aP a ++ [(T, (rdProg (aY a) n tab).2.1)], aO a)) := by rw [spProgram, onK_t hTl (by omega), onK_t hnl (by omega), if_neg c53, ← htab]
          refine lv_aload_n hE.1 hE.2.1 dX11_program_74 rfl (lv_at hl 0 rfl) ?_
          refine lv_aload_n hE.1 hE.2.1 dX11_program_75 rfl (lv_at hl 0 rfl) ?_
          refine rm_geti hE hH hG fl_X11_234 rfl (v := nI ((aP a).length)) (hS.2.2.2.1.1) dX11_program_76 ?_
          refine lv_iload_n hE.1 hE.2.1 dX11_program_79 rfl (lv_at hl 1 rfl) ?_
          refine rg_VV (As := [.int (nI ((aP a).length)), .int (nI T)]) (rest := []) hE hml hH mc_X11_237 (c_readProgram l z G hG (up2 (up2 (up2 (up2 (up2 iv1 0 3 (nI 0)) 0 5 (-1)) 0 30 (nI n)) 0 29 (nI 0)) 0 35 (nI 0)) jv (aY a) n hX rfl rfl T (aP a).length hT (by omega) tab hBx hTW) hG.1.1 hG.1.2 (by decide) rfl ⟨Nat.le_of_ble_eq_true rfl, Nat.le_of_ble_eq_true rfl⟩ rfl hl.1 (by simp [Value.category]) dX11_program_80 ⟨Nat.le_of_ble_eq_true rfl, Nat.le_of_ble_eq_true rfl⟩ (fun G80 iv80 jv80 H locs hp80 hH => ?_)
          obtain ⟨rfl, rfl, ⟨hM, hTB⟩, hF80⟩ := hp80
          have hFr := hFr.tr (hF80.mono (fun lb j h => Or.inr (Or.inl h)))
          obtain ⟨-, -, -, -, -, hb80⟩ := hM.b
          refine lv_aload_n hE.1 hE.2.1 dX11_program_83 rfl (lv_at hl 0 rfl) ?_
          refine rm_geti hE hH hG fl_X11_131 rfl (v := nI ((rdProg (aY a) n tab).1)) (hM.2.2.2.1) dX11_program_84 ?_
          refine rn_if_eq (tgt := 105) hE dX11_program_87 (by decide) (by omega) (fun c87 => ?_) (fun c87 => ?_)
          · rw [if_neg (by simp [c87])] at hsp
            have hg := rdProg_ok (B := aY a) (n := n) (by omega) hTW c87
            have hTB := hTB c87
            refine lv_aload_n hE.1 hE.2.1 dX11_program_105 rfl (lv_at hl 0 rfl) ?_
            refine rm_getr hE hH hG fl_X11_44 rfl (by decide) dX11_program_106 ?_
            refine lv_aload_n hE.1 hE.2.1 dX11_program_109 rfl (lv_at hl 0 rfl) ?_
            refine rm_geti hE hH hG fl_X11_234 rfl (v := nI ((aP a).length)) ((hF80 0 7 (by simp)).trans h7x) dX11_program_110 ?_
            refine lv_iload_n hE.1 hE.2.1 dX11_program_113 rfl (lv_at hl 1 rfl) ?_
            refine rm_iast hE hH hG (k := 16) (by decide) rfl (N := 12) rfl (n := (aP a).length) (by omega) (v := nI T) dX11_program_114 (fun H locs hH => ?_)
            have hU16 : Fr iv80 (up2 iv80 16 ((aP a).length) (nI T)) (fun lb j => lb = 16 ∧ j = (aP a).length) := Fr.up Fr.rf ⟨rfl, rfl⟩
            have hFr : Fr iv1 (up2 iv80 16 ((aP a).length) (nI T)) (pU3 (aP a).length) := hFr.tr (hU16.mono (fun lb j h => Or.inr (Or.inr h)))
            have hPR : PRG (up2 iv80 16 ((aP a).length) (nI T)) (aP a).length (rdProg (aY a) n tab).2.1 := hTB.fr hU16 hg (by omega) (fun lb j h _ _ => by omega) (fun lb j h _ _ => by omega)
            have h7y : (up2 iv80 16 ((aP a).length) (nI T)) 0 7 = nI (aP a).length := (hF80 0 7 (by simp)).trans h7x
            have h16 : (up2 iv80 16 ((aP a).length) (nI T)) 16 (aP a).length = nI T := up2_s
            refine lv_aload_n hE.1 hE.2.1 dX11_program_115 rfl (lv_at hl 0 rfl) ?_
            refine lv_dup hE.1 hE.2.1 dX11_program_116 rfl ?_
            refine rm_geti hE hH hG fl_X11_234 rfl (v := nI ((aP a).length)) (h7y) dX11_program_117 ?_
            refine lv_iconst (v := nI 1) hE.1 hE.2.1 dX11_program_120 (by decide) ?_
            refine rn_iadd hE dX11_program_121 ?_
            refine rm_puti hE hH hG fl_X11_234 rfl fn_X11_7 (v := nI ((aP a).length + 1)) dX11_program_122 (fun H locs hH => ?_)
            refine lv_aload_n hE.1 hE.2.1 dX11_program_125 rfl (lv_at hl 0 rfl) ?_
            refine rm_geti hE hH hG fl_X11_234 rfl (v := nI ((aP a).length + 1)) (rfl) dX11_program_126 ?_
            refine lv_iconst (v := nI 1) hE.1 hE.2.1 dX11_program_129 (by decide) ?_
            refine rn_isub hE dX11_program_130 (by omega) ?_
            exact rg_iret hE hr rfl hlk hH ⟨rfl, rfl, by
              rw [hsp]
              have hFu : Fr (up2 iv80 16 (aP a).length (nI T)) (up2 (up2 iv80 16 (aP a).length (nI T)) 0 7 (nI ((aP a).length + 1))) (fun lb j => lb = 0 ∧ j = 7) := Fr.up Fr.rf ⟨rfl, rfl⟩
              refine ⟨(hFr 0 0 (pU3_0 (by decide))).trans h00, by rw [show (aP a).length + 1 - 1 = (aP a).length by omega]; rfl, ⟨⟨(hF80 0 3 (by simp)).trans h3x, Nat.zero_le _, fun k hk => absurd hk (Nat.not_lt_zero k), fun k hk => absurd hk (Nat.not_lt_zero k)⟩, (hF80 0 5 (by simp)).trans h5x, ?_, ?_, ?_⟩⟩
              · exact mTb.fr (mTb.fr hS.2.2.1 hFr (pU3_0 (by decide)) (fun lb j h1 h2 => pU3_l (by omega) (by omega)) (fun lb j h1 h2 => pU3_l (by omega) (by omega))) hFu (by omega) (fun lb j _ _ => by omega) (fun lb j _ _ => by omega)
              · exact mPg.add (mPg.frP hS.2.2.2.1 (Nat.le_refl _) hFr) (by omega) hTl h16 hPR (show prgOK (aTb a T) _ by rw [← htab]; exact hg)
              · exact mOu.fr (mOu.fr hS.2.2.2.2 hFr (pU3_0 (by decide)) (fun k => pU3_l (by decide) (by decide))) hFu (by omega) (fun k => by omega), hF0.tr (Fr.up (hFr.mono (fun lb j h => pU3_M h)) (by simp))⟩ dX11_program_131
          · rw [if_pos c87] at hsp
            refine lv_aload_n hE.1 hE.2.1 dX11_program_90 rfl (lv_at hl 0 rfl) ?_
            refine lv_aload_n hE.1 hE.2.1 dX11_program_91 rfl (lv_at hl 0 rfl) ?_
            refine rm_geti hE hH hG fl_X11_134 rfl (v := nI (tb (rdProg (aY a) n tab).2.2)) (hM.2.2.2.2.2 c87) dX11_program_92 ?_
            refine rm_puti hE hH hG fl_X11_16 rfl fn_X11_5 (v := nI (tb (rdProg (aY a) n tab).2.2)) dX11_program_95 (fun H locs hH => ?_)
            refine lv_iconst (v := -1) hE.1 hE.2.1 dX11_program_98 (by decide) ?_
            refine lv_aload_n hE.1 hE.2.1 dX11_program_99 rfl (lv_at hl 0 rfl) ?_
            refine rm_geti hE hH hG fl_X11_131 rfl (v := nI ((rdProg (aY a) n tab).1)) (hM.2.2.2.1) dX11_program_100 ?_
            refine lv_isub hE.1 hE.2.1 dX11_program_103 ?_
            exact rg_iret hE hr rfl hlk hH ⟨rfl, rfl, by rw [hsp]; exact ⟨(hFr 0 0 (pU3_0 (by decide))).trans h00, rfl, ⟨⟨(hF80 0 3 (by simp)).trans h3x, Nat.zero_le _, fun k hk => absurd hk (Nat.not_lt_zero k), fun k hk => absurd hk (Nat.not_lt_zero k)⟩, rfl, mTb.fr hS.2.2.1 (Fr.up hFr (Or.inl ⟨rfl, Or.inr (Or.inl rfl)⟩)) (pU3_0 (by decide)) (fun lb j h1 h2 => pU3_l (by omega) (by omega)) (fun lb j h1 h2 => pU3_l (by omega) (by omega)), mPg.frP hS.2.2.2.1 (Nat.le_refl _) (Fr.up hFr (Or.inl ⟨rfl, Or.inr (Or.inl rfl)⟩)), mOu.fr hS.2.2.2.2 (Fr.up hFr (Or.inl ⟨rfl, Or.inr (Or.inl rfl)⟩)) (pU3_0 (by decide)) (fun k => pU3_l (by decide) (by decide))⟩⟩, hF0.tr ((Fr.up hFr (Or.inl ⟨rfl, Or.inr (Or.inl rfl)⟩)).mono (fun lb j h => pU3_M h))⟩ dX11_program_104
        · refine lv_bipush (v := (-9)) hE.1 hE.2.1 dX11_program_56 (by decide) ?_
          exact rg_iret hE hr rfl hlk hH ⟨rfl, rfl, by rw [show spProgram a (nI T) (nI n) = ok (-9) (0, aY a, -1, aT a, aP a, aO a) by rw [spProgram, onK_t hTl (by omega), onK_t hnl (by omega), if_pos c53]]; exact ⟨h00, rfl, hS.clr⟩, hF0.tr (Fr.up (Fr.up Fr.rf (by simp)) (by simp))⟩ dX11_program_58
      · refine lv_aload_n hE.1 hE.2.1 dX11_program_30 rfl (lv_at hl 0 rfl) ?_
        refine lv_iconst (v := nI 2) hE.1 hE.2.1 dX11_program_31 (by decide) ?_
        refine rm_puti hE hH hG fl_X11_96 rfl fn_X11_0 (v := nI 2) dX11_program_32 (fun H locs hH => ?_)
        refine lv_iconst (v := nI 0) hE.1 hE.2.1 dX11_program_35 (by decide) ?_
        exact rg_iret hE hr rfl hlk hH ⟨rfl, rfl, by rw [show spProgram a (nI T) x = no 2 a by rw [spProgram, onK_t hTl (by omega), onK_f (inI_gt (by omega) c27)]]; exact ⟨rfl, rfl, hS.c0⟩, hF0.tr up0_M⟩ dX11_program_36
  · refine lv_aload_n hE.1 hE.2.1 dX11_program_13 rfl (lv_at hl 0 rfl) ?_
    refine rg_VI (As := []) (rest := []) hE hml hH mc_X11_215 (c_fail l z G hG iv1 jv) hG.1.1 hG.1.2 (by decide) rfl ⟨Nat.le_of_ble_eq_true rfl, Nat.le_of_ble_eq_true rfl⟩ rfl hl.1 (by simp [Value.category]) dX11_program_14 ⟨Nat.le_of_ble_eq_true rfl, Nat.le_of_ble_eq_true rfl⟩ (fun r14 G14 iv14 jv14 H locs hp14 hH => ?_)
    obtain ⟨rfl, rfl, rfl, rfl⟩ := hp14
    exact rg_iret hE hr rfl hlk hH ⟨rfl, rfl, by rw [show spProgram a t x = no 1 a by rw [spProgram, onK_f c10]]; exact ⟨rfl, rfl, hS.c0⟩, hF0.tr up0_M⟩ dX11_program_17
