set_option maxRecDepth 100000 in
set_option maxHeartbeats 4000000 in
theorem c_step (l : Launch) (z : ZK) (G : GW) (hG : isM G) (iv : IV) (jv : JV) (B : Nat → Nat) (n p : Nat) (hX : TX iv B n) (hp : p ≤ n) (h29 : iv 0 29 = nI p) : cV l z yX11_step cX11_step 2 none 1 21 0 0 [.ref (G.ad 0)] G iv jv (fun G' iv' jv' => G = G' ∧ jv = jv' ∧ TR iv' (tokAt B n p) ∧ Fr iv iv' pS) := by
  intro sz
  refine rg_entry rfl (Nat.le_of_ble_eq_true rfl) ?_
  intro pq eq sq mq bq methq cq ls hE hr hlk hml hnm hl hsz hH
  have hl : lv_has ls 2 [(0, .ref (G.ad 0))] := hl
  have hn := hX.1
  refine rg_loop (σ := IV × Nat) (nL := 2) (fun (u : IV × Nat) => match u with | (iv1, q) => n - q) (fun (u : IV × Nat) => match u with | (iv1, q) => [(0, .ref (G.ad 0))]) (fun (u : IV × Nat) => match u with | (iv1, q) => G) (fun (u : IV × Nat) => match u with | (iv1, q) => iv1) (fun (u : IV × Nat) => match u with | (iv1, q) => jv) (fun (u : IV × Nat) => match u with | (iv1, q) => iv1 0 29 = nI q ∧ Fr iv iv1 pS ∧ q ≤ n ∧ rowE (fun i => isBl (B i)) n q = rowE (fun i => isBl (B i)) n p) ?_ ((iv, p)) ⟨h29, Fr.rf, hp, rfl⟩ (lv_sub hl [0] rfl) hH
  rintro ⟨iv1, q⟩ H locs ls ⟨h29, hF, hqn, hq⟩ hl hH ih0
  try dsimp only at hl hH ih0
  try dsimp only at h29 hF hqn hq
  have hX : TX iv1 B n := hX.fr hF (by decide) (fun k => by simp)
  refine lv_aload_n hE.1 hE.2.1 dX11_step_0 rfl (lv_at hl 0 rfl) ?_
  refine lv_aload_n hE.1 hE.2.1 dX11_step_1 rfl (lv_at hl 0 rfl) ?_
  refine rm_geti hE hH hG fl_X11_108 rfl (v := nI q) (h29) dX11_step_2 ?_
  refine rg_VI (As := [.int (nI q)]) (rest := []) hE hml hH mc_X11_111 (c_byteAt l z G hG iv1 jv B q n hX (by omega)) hG.1.1 hG.1.2 (by decide) rfl ⟨Nat.le_of_ble_eq_true rfl, Nat.le_of_ble_eq_true rfl⟩ rfl hl.1 (by simp [Value.category]) dX11_step_5 ⟨Nat.le_of_ble_eq_true rfl, Nat.le_of_ble_eq_true rfl⟩ (fun r5 G5 iv5 jv5 H locs hp5 hH => ?_)
  obtain ⟨rfl, rfl, rfl, rfl⟩ := hp5
  refine lv_bipush (v := nI 32) hE.1 hE.2.1 dX11_step_8 (by decide) ?_
  refine lv_icmp_eq (tgt := 26) hE.1 hE.2.1 dX11_step_10 (by decide) (fun c10 => ?_) (fun c10 => ?_)
  · rw [bAt_eq hX.2.2.2 (by decide)] at c10
    have hbl : isBl (B q) = true := by simp [isBl, c10.2]
    have hqn2 := c10.1
    refine lv_aload_n hE.1 hE.2.1 dX11_step_26 rfl (lv_at hl 0 rfl) ?_
    refine lv_dup hE.1 hE.2.1 dX11_step_27 rfl ?_
    refine rm_geti hE hH hG fl_X11_108 rfl (v := nI q) (h29) dX11_step_28 ?_
    refine lv_iconst (v := nI 1) hE.1 hE.2.1 dX11_step_31 (by decide) ?_
    refine rn_iadd hE dX11_step_32 ?_
    refine rm_puti hE hH hG fl_X11_108 rfl fn_X11_29 (v := nI (q + 1)) dX11_step_33 (fun H locs hH => ?_)
    refine lv_goto (tgt := 0) hE.1 hE.2.1 dX11_step_36 (by decide) ?_
    exact ih0 (up2 iv1 0 29 (nI (q + 1)), q + 1) _ _ _ (show n - (q + 1) < n - q by omega) ⟨rfl, Fr.up hF (by decide), by show q + 1 ≤ n; omega, by dsimp only; rw [← hq, rowE_go (q := fun i => isBl (B i)) (by omega) hbl]⟩ (lv_sub hl [0] rfl) hH
  · rw [bAt_eq hX.2.2.2 (by decide)] at c10
    refine lv_aload_n hE.1 hE.2.1 dX11_step_13 rfl (lv_at hl 0 rfl) ?_
    refine lv_aload_n hE.1 hE.2.1 dX11_step_14 rfl (lv_at hl 0 rfl) ?_
    refine rm_geti hE hH hG fl_X11_108 rfl (v := nI q) (h29) dX11_step_15 ?_
    refine rg_VI (As := [.int (nI q)]) (rest := []) hE hml hH mc_X11_111 (c_byteAt l z G hG iv1 jv B q n hX (by omega)) hG.1.1 hG.1.2 (by decide) rfl ⟨Nat.le_of_ble_eq_true rfl, Nat.le_of_ble_eq_true rfl⟩ rfl hl.1 (by simp [Value.category]) dX11_step_18 ⟨Nat.le_of_ble_eq_true rfl, Nat.le_of_ble_eq_true rfl⟩ (fun r18 G18 iv18 jv18 H locs hp18 hH => ?_)
    obtain ⟨rfl, rfl, rfl, rfl⟩ := hp18
    refine lv_bipush (v := nI 10) hE.1 hE.2.1 dX11_step_21 (by decide) ?_
    refine lv_icmp_ne (tgt := 39) hE.1 hE.2.1 dX11_step_23 (by decide) (fun c23 => ?_) (fun c23 => ?_)
    · rw [bAt_eq hX.2.2.2 (by decide)] at c23
      have hq1 : rowE (fun i => isBl (B i)) n q = q := by
        by_cases h : q < n
        · refine rowE_stop ?_
          have h1 : B q ≠ 32 := fun h2 => c10 ⟨h, h2⟩
          have h2 : B q ≠ 10 := fun h2 => c23 ⟨h, h2⟩
          simp [isBl, h1, h2]
        · exact rowE_end (by omega)
      have hq : tokAt B n p = tokB B n q := by rw [tokAt, ← hq, hq1]
      refine lv_aload_n hE.1 hE.2.1 dX11_step_39 rfl (lv_at hl 0 rfl) ?_
      refine lv_aload_n hE.1 hE.2.1 dX11_step_40 rfl (lv_at hl 0 rfl) ?_
      refine rm_geti hE hH hG fl_X11_108 rfl (v := nI q) (h29) dX11_step_41 ?_
      refine rm_puti hE hH hG fl_X11_115 rfl fn_X11_33 (v := nI q) dX11_step_44 (fun H locs hH => ?_)
      refine lv_aload_n hE.1 hE.2.1 dX11_step_47 rfl (lv_at hl 0 rfl) ?_
      refine lv_iconst (v := nI 0) hE.1 hE.2.1 dX11_step_48 (by decide) ?_
      refine rm_puti hE hH hG fl_X11_118 rfl fn_X11_32 (v := nI 0) dX11_step_49 (fun H locs hH => ?_)
      refine lv_aload_n hE.1 hE.2.1 dX11_step_52 rfl (lv_at hl 0 rfl) ?_
      refine lv_aload_n hE.1 hE.2.1 dX11_step_53 rfl (lv_at hl 0 rfl) ?_
      refine rm_geti hE hH hG fl_X11_108 rfl (v := nI q) (h29) dX11_step_54 ?_
      refine rg_VI (As := [.int (nI q)]) (rest := []) hE hml hH mc_X11_111 (c_byteAt l z G hG (up2 (up2 iv1 0 33 (nI q)) 0 32 (nI 0)) jv B q n hX (by omega)) hG.1.1 hG.1.2 (by decide) rfl ⟨Nat.le_of_ble_eq_true rfl, Nat.le_of_ble_eq_true rfl⟩ rfl hl.1 (by simp [Value.category]) dX11_step_57 ⟨Nat.le_of_ble_eq_true rfl, Nat.le_of_ble_eq_true rfl⟩ (fun r57 G57 iv57 jv57 H locs hp57 hH => ?_)
      obtain ⟨rfl, rfl, rfl, rfl⟩ := hp57
      refine lv_istore_n (lv' := [(1, .int (bAt B n q)), (0, .ref (G.ad 0))]) hE.1 hE.2.1 dX11_step_60 rfl hl (by decide) rfl (fun ls hl => ?_)
      refine lv_iload_n hE.1 hE.2.1 dX11_step_61 rfl (lv_at hl 0 rfl) ?_
      refine lv_iconst (v := -1) hE.1 hE.2.1 dX11_step_62 (by decide) ?_
      refine lv_icmp_ne (tgt := 74) hE.1 hE.2.1 dX11_step_63 (by decide) (fun c63 => ?_) (fun c63 => ?_)
      · rw [bAt_m1 hX.2.2.2, Nat.not_le] at c63
        refine lv_iload_n hE.1 hE.2.1 dX11_step_74 rfl (lv_at hl 0 rfl) ?_
        refine rg_SI (As := [.int (bAt B n q)]) (rest := []) hE hml hH mc_X11_124 (c_isWordSign l z G hG (up2 (up2 iv1 0 33 (nI q)) 0 32 (nI 0)) jv (bAt B n q)) rfl ⟨Nat.le_of_ble_eq_true rfl, Nat.le_of_ble_eq_true rfl⟩ rfl hl.1 (by simp [Value.category]) dX11_step_75 ⟨Nat.le_of_ble_eq_true rfl, Nat.le_of_ble_eq_true rfl⟩ (fun r75 G75 iv75 jv75 H locs hp75 hH => ?_)
        obtain ⟨rfl, rfl, rfl, rfl⟩ := hp75
        refine rn_ifb_eq (tgt := 116) hE dX11_step_78 (by decide) (fun c78 => ?_) (fun c78 => ?_)
        · rw [wsI_b hX.2.2.2] at c78
          have hw : isWS (B q) = false := by simpa [c63] using c78
          refine lv_aload_n hE.1 hE.2.1 dX11_step_116 rfl (lv_at hl 1 rfl) ?_
          refine lv_dup hE.1 hE.2.1 dX11_step_117 rfl ?_
          refine rm_geti hE hH hG fl_X11_108 rfl (v := nI q) (h29) dX11_step_118 ?_
          refine lv_iconst (v := nI 1) hE.1 hE.2.1 dX11_step_121 (by decide) ?_
          refine rn_iadd hE dX11_step_122 ?_
          refine rm_puti hE hH hG fl_X11_108 rfl fn_X11_29 (v := nI (q + 1)) dX11_step_123 (fun H locs hH => ?_)
          refine lv_aload_n hE.1 hE.2.1 dX11_step_126 rfl (lv_at hl 1 rfl) ?_
          refine lv_iload_n hE.1 hE.2.1 dX11_step_127 rfl (lv_at hl 0 rfl) ?_
          refine lv_bipush (v := nI 42) hE.1 hE.2.1 dX11_step_128 (by decide) ?_
          refine lv_icmp_eq (tgt := 157) hE.1 hE.2.1 dX11_step_130 (by decide) (fun c130 => ?_) (fun c130 => ?_)
          · rw [bAt_eq hX.2.2.2 (by decide)] at c130
            have hTs := tok_sign (B := B) c63 hw (by omega)
            refine lv_iconst (v := nI 2) hE.1 hE.2.1 dX11_step_157 (by decide) ?_
            refine lv_goto (tgt := 162) hE.1 hE.2.1 dX11_step_158 (by decide) ?_
            refine rm_puti hE hH hG fl_X11_121 rfl fn_X11_31 (v := nI 2) dX11_step_162 (fun H locs hH => ?_)
            have hbq : bAt B n q = nI (B q) := by unfold bAt; rw [if_pos c63]
            refine lv_aload_n hE.1 hE.2.1 dX11_step_165 rfl (lv_at hl 1 rfl) ?_
            refine lv_iload_n hE.1 hE.2.1 dX11_step_166 rfl (lv_at hl 0 rfl) ?_
            refine rm_puti hE hH hG fl_X11_118 rfl fn_X11_32 (v := bAt B n q) dX11_step_167 (fun H locs hH => ?_)
            refine lv_iload_n hE.1 hE.2.1 dX11_step_170 rfl (lv_at hl 0 rfl) ?_
            refine lv_bipush (v := nI 45) hE.1 hE.2.1 dX11_step_171 (by decide) ?_
            refine lv_icmp_ne (tgt := 211) hE.1 hE.2.1 dX11_step_173 (by decide) (fun c173 => ?_) (fun c173 => ?_)
            · rw [bAt_eq hX.2.2.2 (by decide)] at c173
              refine lv_aload_n hE.1 hE.2.1 dX11_step_211 rfl (lv_at hl 1 rfl) ?_
              refine lv_aload_n hE.1 hE.2.1 dX11_step_212 rfl (lv_at hl 1 rfl) ?_
              refine rm_geti hE hH hG fl_X11_108 rfl (v := nI (q + 1)) (rfl) dX11_step_213 ?_
              refine rm_puti hE hH hG fl_X11_128 rfl fn_X11_34 (v := nI (q + 1)) dX11_step_216 (fun H locs hH => ?_)
              exact rg_vret hE hr hlk hH ⟨rfl, rfl, by rw [hq, hTs]; exact ⟨rfl, rfl, hbq, rfl, rfl⟩, Fr.up (Fr.up (Fr.up (Fr.up (Fr.up (Fr.up hF (by decide)) (by decide)) (by decide)) (by decide)) (by decide)) (by decide)⟩ dX11_step_219
            · rw [bAt_eq hX.2.2.2 (by decide)] at c173; omega
          · rw [bAt_eq hX.2.2.2 (by decide)] at c130
            refine lv_iload_n hE.1 hE.2.1 dX11_step_133 rfl (lv_at hl 0 rfl) ?_
            refine lv_bipush (v := nI 47) hE.1 hE.2.1 dX11_step_134 (by decide) ?_
            refine lv_icmp_eq (tgt := 157) hE.1 hE.2.1 dX11_step_136 (by decide) (fun c136 => ?_) (fun c136 => ?_)
            · rw [bAt_eq hX.2.2.2 (by decide)] at c136
              have hTs := tok_sign (B := B) c63 hw (by omega)
              refine lv_iconst (v := nI 2) hE.1 hE.2.1 dX11_step_157 (by decide) ?_
              refine lv_goto (tgt := 162) hE.1 hE.2.1 dX11_step_158 (by decide) ?_
              refine rm_puti hE hH hG fl_X11_121 rfl fn_X11_31 (v := nI 2) dX11_step_162 (fun H locs hH => ?_)
              have hbq : bAt B n q = nI (B q) := by unfold bAt; rw [if_pos c63]
              refine lv_aload_n hE.1 hE.2.1 dX11_step_165 rfl (lv_at hl 1 rfl) ?_
              refine lv_iload_n hE.1 hE.2.1 dX11_step_166 rfl (lv_at hl 0 rfl) ?_
              refine rm_puti hE hH hG fl_X11_118 rfl fn_X11_32 (v := bAt B n q) dX11_step_167 (fun H locs hH => ?_)
              refine lv_iload_n hE.1 hE.2.1 dX11_step_170 rfl (lv_at hl 0 rfl) ?_
              refine lv_bipush (v := nI 45) hE.1 hE.2.1 dX11_step_171 (by decide) ?_
              refine lv_icmp_ne (tgt := 211) hE.1 hE.2.1 dX11_step_173 (by decide) (fun c173 => ?_) (fun c173 => ?_)
              · rw [bAt_eq hX.2.2.2 (by decide)] at c173
                refine lv_aload_n hE.1 hE.2.1 dX11_step_211 rfl (lv_at hl 1 rfl) ?_
                refine lv_aload_n hE.1 hE.2.1 dX11_step_212 rfl (lv_at hl 1 rfl) ?_
                refine rm_geti hE hH hG fl_X11_108 rfl (v := nI (q + 1)) (rfl) dX11_step_213 ?_
                refine rm_puti hE hH hG fl_X11_128 rfl fn_X11_34 (v := nI (q + 1)) dX11_step_216 (fun H locs hH => ?_)
                exact rg_vret hE hr hlk hH ⟨rfl, rfl, by rw [hq, hTs]; exact ⟨rfl, rfl, hbq, rfl, rfl⟩, Fr.up (Fr.up (Fr.up (Fr.up (Fr.up (Fr.up hF (by decide)) (by decide)) (by decide)) (by decide)) (by decide)) (by decide)⟩ dX11_step_219
              · rw [bAt_eq hX.2.2.2 (by decide)] at c173; omega
            · rw [bAt_eq hX.2.2.2 (by decide)] at c136
              refine lv_iload_n hE.1 hE.2.1 dX11_step_139 rfl (lv_at hl 0 rfl) ?_
              refine lv_bipush (v := nI 33) hE.1 hE.2.1 dX11_step_140 (by decide) ?_
              refine lv_icmp_eq (tgt := 157) hE.1 hE.2.1 dX11_step_142 (by decide) (fun c142 => ?_) (fun c142 => ?_)
              · rw [bAt_eq hX.2.2.2 (by decide)] at c142
                have hTs := tok_sign (B := B) c63 hw (by omega)
                refine lv_iconst (v := nI 2) hE.1 hE.2.1 dX11_step_157 (by decide) ?_
                refine lv_goto (tgt := 162) hE.1 hE.2.1 dX11_step_158 (by decide) ?_
                refine rm_puti hE hH hG fl_X11_121 rfl fn_X11_31 (v := nI 2) dX11_step_162 (fun H locs hH => ?_)
                have hbq : bAt B n q = nI (B q) := by unfold bAt; rw [if_pos c63]
                refine lv_aload_n hE.1 hE.2.1 dX11_step_165 rfl (lv_at hl 1 rfl) ?_
                refine lv_iload_n hE.1 hE.2.1 dX11_step_166 rfl (lv_at hl 0 rfl) ?_
                refine rm_puti hE hH hG fl_X11_118 rfl fn_X11_32 (v := bAt B n q) dX11_step_167 (fun H locs hH => ?_)
                refine lv_iload_n hE.1 hE.2.1 dX11_step_170 rfl (lv_at hl 0 rfl) ?_
                refine lv_bipush (v := nI 45) hE.1 hE.2.1 dX11_step_171 (by decide) ?_
                refine lv_icmp_ne (tgt := 211) hE.1 hE.2.1 dX11_step_173 (by decide) (fun c173 => ?_) (fun c173 => ?_)
                · rw [bAt_eq hX.2.2.2 (by decide)] at c173
                  refine lv_aload_n hE.1 hE.2.1 dX11_step_211 rfl (lv_at hl 1 rfl) ?_
                  refine lv_aload_n hE.1 hE.2.1 dX11_step_212 rfl (lv_at hl 1 rfl) ?_
                  refine rm_geti hE hH hG fl_X11_108 rfl (v := nI (q + 1)) (rfl) dX11_step_213 ?_
                  refine rm_puti hE hH hG fl_X11_128 rfl fn_X11_34 (v := nI (q + 1)) dX11_step_216 (fun H locs hH => ?_)
                  exact rg_vret hE hr hlk hH ⟨rfl, rfl, by rw [hq, hTs]; exact ⟨rfl, rfl, hbq, rfl, rfl⟩, Fr.up (Fr.up (Fr.up (Fr.up (Fr.up (Fr.up hF (by decide)) (by decide)) (by decide)) (by decide)) (by decide)) (by decide)⟩ dX11_step_219
                · rw [bAt_eq hX.2.2.2 (by decide)] at c173; omega
              · rw [bAt_eq hX.2.2.2 (by decide)] at c142
                refine lv_iload_n hE.1 hE.2.1 dX11_step_145 rfl (lv_at hl 0 rfl) ?_
                refine lv_bipush (v := nI 59) hE.1 hE.2.1 dX11_step_146 (by decide) ?_
                refine lv_icmp_eq (tgt := 157) hE.1 hE.2.1 dX11_step_148 (by decide) (fun c148 => ?_) (fun c148 => ?_)
                · rw [bAt_eq hX.2.2.2 (by decide)] at c148
                  have hTs := tok_sign (B := B) c63 hw (by omega)
                  refine lv_iconst (v := nI 2) hE.1 hE.2.1 dX11_step_157 (by decide) ?_
                  refine lv_goto (tgt := 162) hE.1 hE.2.1 dX11_step_158 (by decide) ?_
                  refine rm_puti hE hH hG fl_X11_121 rfl fn_X11_31 (v := nI 2) dX11_step_162 (fun H locs hH => ?_)
                  have hbq : bAt B n q = nI (B q) := by unfold bAt; rw [if_pos c63]
                  refine lv_aload_n hE.1 hE.2.1 dX11_step_165 rfl (lv_at hl 1 rfl) ?_
                  refine lv_iload_n hE.1 hE.2.1 dX11_step_166 rfl (lv_at hl 0 rfl) ?_
                  refine rm_puti hE hH hG fl_X11_118 rfl fn_X11_32 (v := bAt B n q) dX11_step_167 (fun H locs hH => ?_)
                  refine lv_iload_n hE.1 hE.2.1 dX11_step_170 rfl (lv_at hl 0 rfl) ?_
                  refine lv_bipush (v := nI 45) hE.1 hE.2.1 dX11_step_171 (by decide) ?_
                  refine lv_icmp_ne (tgt := 211) hE.1 hE.2.1 dX11_step_173 (by decide) (fun c173 => ?_) (fun c173 => ?_)
                  · rw [bAt_eq hX.2.2.2 (by decide)] at c173
                    refine lv_aload_n hE.1 hE.2.1 dX11_step_211 rfl (lv_at hl 1 rfl) ?_
                    refine lv_aload_n hE.1 hE.2.1 dX11_step_212 rfl (lv_at hl 1 rfl) ?_
                    refine rm_geti hE hH hG fl_X11_108 rfl (v := nI (q + 1)) (rfl) dX11_step_213 ?_
                    refine rm_puti hE hH hG fl_X11_128 rfl fn_X11_34 (v := nI (q + 1)) dX11_step_216 (fun H locs hH => ?_)
                    exact rg_vret hE hr hlk hH ⟨rfl, rfl, by rw [hq, hTs]; exact ⟨rfl, rfl, hbq, rfl, rfl⟩, Fr.up (Fr.up (Fr.up (Fr.up (Fr.up (Fr.up hF (by decide)) (by decide)) (by decide)) (by decide)) (by decide)) (by decide)⟩ dX11_step_219
                  · rw [bAt_eq hX.2.2.2 (by decide)] at c173; omega
                · rw [bAt_eq hX.2.2.2 (by decide)] at c148
                  refine lv_iload_n hE.1 hE.2.1 dX11_step_151 rfl (lv_at hl 0 rfl) ?_
                  refine lv_bipush (v := nI 58) hE.1 hE.2.1 dX11_step_152 (by decide) ?_
                  refine lv_icmp_ne (tgt := 161) hE.1 hE.2.1 dX11_step_154 (by decide) (fun c154 => ?_) (fun c154 => ?_)
                  · rw [bAt_eq hX.2.2.2 (by decide)] at c154
                    refine lv_iconst (v := nI 3) hE.1 hE.2.1 dX11_step_161 (by decide) ?_
                    refine rm_puti hE hH hG fl_X11_121 rfl fn_X11_31 (v := nI 3) dX11_step_162 (fun H locs hH => ?_)
                    have hbq : bAt B n q = nI (B q) := by unfold bAt; rw [if_pos c63]
                    refine lv_aload_n hE.1 hE.2.1 dX11_step_165 rfl (lv_at hl 1 rfl) ?_
                    refine lv_iload_n hE.1 hE.2.1 dX11_step_166 rfl (lv_at hl 0 rfl) ?_
                    refine rm_puti hE hH hG fl_X11_118 rfl fn_X11_32 (v := bAt B n q) dX11_step_167 (fun H locs hH => ?_)
                    refine lv_iload_n hE.1 hE.2.1 dX11_step_170 rfl (lv_at hl 0 rfl) ?_
                    refine lv_bipush (v := nI 45) hE.1 hE.2.1 dX11_step_171 (by decide) ?_
                    refine lv_icmp_ne (tgt := 211) hE.1 hE.2.1 dX11_step_173 (by decide) (fun c173 => ?_) (fun c173 => ?_)
                    · rw [bAt_eq hX.2.2.2 (by decide)] at c173
                      have hTb := tok_bad (B := B) c63 hw (by omega) (by omega)
                      refine lv_aload_n hE.1 hE.2.1 dX11_step_211 rfl (lv_at hl 1 rfl) ?_
                      refine lv_aload_n hE.1 hE.2.1 dX11_step_212 rfl (lv_at hl 1 rfl) ?_
                      refine rm_geti hE hH hG fl_X11_108 rfl (v := nI (q + 1)) (rfl) dX11_step_213 ?_
                      refine rm_puti hE hH hG fl_X11_128 rfl fn_X11_34 (v := nI (q + 1)) dX11_step_216 (fun H locs hH => ?_)
                      exact rg_vret hE hr hlk hH ⟨rfl, rfl, by rw [hq, hTb]; exact ⟨rfl, rfl, hbq, rfl, rfl⟩, Fr.up (Fr.up (Fr.up (Fr.up (Fr.up (Fr.up hF (by decide)) (by decide)) (by decide)) (by decide)) (by decide)) (by decide)⟩ dX11_step_219
                    · rw [bAt_eq hX.2.2.2 (by decide)] at c173
                      refine lv_aload_n hE.1 hE.2.1 dX11_step_176 rfl (lv_at hl 1 rfl) ?_
                      refine lv_aload_n hE.1 hE.2.1 dX11_step_177 rfl (lv_at hl 1 rfl) ?_
                      refine rm_geti hE hH hG fl_X11_108 rfl (v := nI (q + 1)) (rfl) dX11_step_178 ?_
                      refine rg_VI (As := [.int (nI (q + 1))]) (rest := []) hE hml hH mc_X11_111 (c_byteAt l z G hG (up2 (up2 (up2 (up2 (up2 iv1 0 33 (nI q)) 0 32 (nI 0)) 0 29 (nI (q + 1))) 0 31 (nI 3)) 0 32 (bAt B n q)) jv B (q + 1) n hX (by omega)) hG.1.1 hG.1.2 (by decide) rfl ⟨Nat.le_of_ble_eq_true rfl, Nat.le_of_ble_eq_true rfl⟩ rfl hl.1 (by simp [Value.category]) dX11_step_181 ⟨Nat.le_of_ble_eq_true rfl, Nat.le_of_ble_eq_true rfl⟩ (fun r181 G181 iv181 jv181 H locs hp181 hH => ?_)
                      obtain ⟨rfl, rfl, rfl, rfl⟩ := hp181
                      refine lv_bipush (v := nI 62) hE.1 hE.2.1 dX11_step_184 (by decide) ?_
                      refine lv_icmp_ne (tgt := 211) hE.1 hE.2.1 dX11_step_186 (by decide) (fun c186 => ?_) (fun c186 => ?_)
                      · rw [bAt_eq hX.2.2.2 (by decide)] at c186
                        have hTb := tok_bad (B := B) c63 hw (by omega) (by omega)
                        refine lv_aload_n hE.1 hE.2.1 dX11_step_211 rfl (lv_at hl 1 rfl) ?_
                        refine lv_aload_n hE.1 hE.2.1 dX11_step_212 rfl (lv_at hl 1 rfl) ?_
                        refine rm_geti hE hH hG fl_X11_108 rfl (v := nI (q + 1)) (rfl) dX11_step_213 ?_
                        refine rm_puti hE hH hG fl_X11_128 rfl fn_X11_34 (v := nI (q + 1)) dX11_step_216 (fun H locs hH => ?_)
                        exact rg_vret hE hr hlk hH ⟨rfl, rfl, by rw [hq, hTb]; exact ⟨rfl, rfl, hbq, rfl, rfl⟩, Fr.up (Fr.up (Fr.up (Fr.up (Fr.up (Fr.up hF (by decide)) (by decide)) (by decide)) (by decide)) (by decide)) (by decide)⟩ dX11_step_219
                      · rw [bAt_eq hX.2.2.2 (by decide)] at c186
                        have hTa := tok_arrow (B := B) c63 hw c173.2 c186.1 c186.2
                        refine lv_aload_n hE.1 hE.2.1 dX11_step_189 rfl (lv_at hl 1 rfl) ?_
                        refine lv_dup hE.1 hE.2.1 dX11_step_190 rfl ?_
                        refine rm_geti hE hH hG fl_X11_108 rfl (v := nI (q + 1)) (rfl) dX11_step_191 ?_
                        refine lv_iconst (v := nI 1) hE.1 hE.2.1 dX11_step_194 (by decide) ?_
                        refine rn_iadd hE dX11_step_195 ?_
                        refine rm_puti hE hH hG fl_X11_108 rfl fn_X11_29 (v := nI (q + 1 + 1)) dX11_step_196 (fun H locs hH => ?_)
                        refine lv_aload_n hE.1 hE.2.1 dX11_step_199 rfl (lv_at hl 1 rfl) ?_
                        refine lv_iconst (v := nI 2) hE.1 hE.2.1 dX11_step_200 (by decide) ?_
                        refine rm_puti hE hH hG fl_X11_121 rfl fn_X11_31 (v := nI 2) dX11_step_201 (fun H locs hH => ?_)
                        refine lv_aload_n hE.1 hE.2.1 dX11_step_204 rfl (lv_at hl 1 rfl) ?_
                        refine lv_sipush (v := nI 256) hE.1 hE.2.1 dX11_step_205 (by decide) ?_
                        refine rm_puti hE hH hG fl_X11_118 rfl fn_X11_32 (v := nI 256) dX11_step_208 (fun H locs hH => ?_)
                        refine lv_aload_n hE.1 hE.2.1 dX11_step_211 rfl (lv_at hl 1 rfl) ?_
                        refine lv_aload_n hE.1 hE.2.1 dX11_step_212 rfl (lv_at hl 1 rfl) ?_
                        refine rm_geti hE hH hG fl_X11_108 rfl (v := nI (q + 1 + 1)) (rfl) dX11_step_213 ?_
                        refine rm_puti hE hH hG fl_X11_128 rfl fn_X11_34 (v := nI (q + 1 + 1)) dX11_step_216 (fun H locs hH => ?_)
                        exact rg_vret hE hr hlk hH ⟨rfl, rfl, by rw [hq, hTa]; exact ⟨rfl, rfl, rfl, rfl, rfl⟩, Fr.up (Fr.up (Fr.up (Fr.up (Fr.up (Fr.up (Fr.up (Fr.up (Fr.up hF (by decide)) (by decide)) (by decide)) (by decide)) (by decide)) (by decide)) (by decide)) (by decide)) (by decide)⟩ dX11_step_219
                  · rw [bAt_eq hX.2.2.2 (by decide)] at c154
                    have hTs := tok_sign (B := B) c63 hw (by omega)
                    refine lv_iconst (v := nI 2) hE.1 hE.2.1 dX11_step_157 (by decide) ?_
                    refine lv_goto (tgt := 162) hE.1 hE.2.1 dX11_step_158 (by decide) ?_
                    refine rm_puti hE hH hG fl_X11_121 rfl fn_X11_31 (v := nI 2) dX11_step_162 (fun H locs hH => ?_)
                    have hbq : bAt B n q = nI (B q) := by unfold bAt; rw [if_pos c63]
                    refine lv_aload_n hE.1 hE.2.1 dX11_step_165 rfl (lv_at hl 1 rfl) ?_
                    refine lv_iload_n hE.1 hE.2.1 dX11_step_166 rfl (lv_at hl 0 rfl) ?_
                    refine rm_puti hE hH hG fl_X11_118 rfl fn_X11_32 (v := bAt B n q) dX11_step_167 (fun H locs hH => ?_)
                    refine lv_iload_n hE.1 hE.2.1 dX11_step_170 rfl (lv_at hl 0 rfl) ?_
                    refine lv_bipush (v := nI 45) hE.1 hE.2.1 dX11_step_171 (by decide) ?_
                    refine lv_icmp_ne (tgt := 211) hE.1 hE.2.1 dX11_step_173 (by decide) (fun c173 => ?_) (fun c173 => ?_)
                    · rw [bAt_eq hX.2.2.2 (by decide)] at c173
                      refine lv_aload_n hE.1 hE.2.1 dX11_step_211 rfl (lv_at hl 1 rfl) ?_
                      refine lv_aload_n hE.1 hE.2.1 dX11_step_212 rfl (lv_at hl 1 rfl) ?_
                      refine rm_geti hE hH hG fl_X11_108 rfl (v := nI (q + 1)) (rfl) dX11_step_213 ?_
                      refine rm_puti hE hH hG fl_X11_128 rfl fn_X11_34 (v := nI (q + 1)) dX11_step_216 (fun H locs hH => ?_)
                      exact rg_vret hE hr hlk hH ⟨rfl, rfl, by rw [hq, hTs]; exact ⟨rfl, rfl, hbq, rfl, rfl⟩, Fr.up (Fr.up (Fr.up (Fr.up (Fr.up (Fr.up hF (by decide)) (by decide)) (by decide)) (by decide)) (by decide)) (by decide)⟩ dX11_step_219
                    · rw [bAt_eq hX.2.2.2 (by decide)] at c173; omega
        · rw [wsI_b hX.2.2.2] at c78
          have hw : isWS (B q) = true := by simpa [c63] using c78
          refine rg_loop (σ := IV × Nat) (nL := 2) (fun (u : IV × Nat) => match u with | (iv2, r) => n - r) (fun (u : IV × Nat) => match u with | (iv2, r) => [(0, .ref (G.ad 0))]) (fun (u : IV × Nat) => match u with | (iv2, r) => G) (fun (u : IV × Nat) => match u with | (iv2, r) => iv2) (fun (u : IV × Nat) => match u with | (iv2, r) => jv) (fun (u : IV × Nat) => match u with | (iv2, r) => iv2 0 29 = nI r ∧ iv2 0 33 = nI q ∧ iv2 0 32 = nI 0 ∧ Fr iv iv2 pS ∧ r ≤ n ∧ rowE (fun i => isWS (B i)) n r = rowE (fun i => isWS (B i)) n q) ?_ ((up2 (up2 iv1 0 33 (nI q)) 0 32 (nI 0), q)) ⟨h29, rfl, rfl, Fr.up (Fr.up hF (by decide)) (by decide), by omega, rfl⟩ (lv_sub hl [1] rfl) hH
          rintro ⟨iv2, r⟩ H locs ls ⟨h29, h33, h32, hF, hrn, hr2⟩ hl hH ih81
          try dsimp only at hl hH ih81
          try dsimp only at h29 h33 h32 hF hrn hr2
          have hX : TX iv2 B n := TX.fr ‹TX iv B n› hF (by decide) (fun k => by simp)
          refine lv_aload_n hE.1 hE.2.1 dX11_step_81 rfl (lv_at hl 0 rfl) ?_
          refine lv_aload_n hE.1 hE.2.1 dX11_step_82 rfl (lv_at hl 0 rfl) ?_
          refine rm_geti hE hH hG fl_X11_108 rfl (v := nI r) (h29) dX11_step_83 ?_
          refine rg_VI (As := [.int (nI r)]) (rest := []) hE hml hH mc_X11_111 (c_byteAt l z G hG iv2 jv B r n hX (by omega)) hG.1.1 hG.1.2 (by decide) rfl ⟨Nat.le_of_ble_eq_true rfl, Nat.le_of_ble_eq_true rfl⟩ rfl hl.1 (by simp [Value.category]) dX11_step_86 ⟨Nat.le_of_ble_eq_true rfl, Nat.le_of_ble_eq_true rfl⟩ (fun r86 G86 iv86 jv86 H locs hp86 hH => ?_)
          obtain ⟨rfl, rfl, rfl, rfl⟩ := hp86
          refine rg_SI (As := [.int (bAt B n r)]) (rest := []) hE hml hH mc_X11_124 (c_isWordSign l z G hG iv2 jv (bAt B n r)) rfl ⟨Nat.le_of_ble_eq_true rfl, Nat.le_of_ble_eq_true rfl⟩ rfl hl.1 (by simp [Value.category]) dX11_step_89 ⟨Nat.le_of_ble_eq_true rfl, Nat.le_of_ble_eq_true rfl⟩ (fun r89 G89 iv89 jv89 H locs hp89 hH => ?_)
          obtain ⟨rfl, rfl, rfl, rfl⟩ := hp89
          refine rn_ifb_eq (tgt := 108) hE dX11_step_92 (by decide) (fun c92 => ?_) (fun c92 => ?_)
          · rw [wsI_b hX.2.2.2] at c92
            have he : rowE (fun i => isWS (B i)) n r = r := by
              by_cases h : r < n
              · exact rowE_stop (by simpa [h] using c92)
              · exact rowE_end (by omega)
            have hTw := tok_word (B := B) c63 hw
            rw [← hr2, he] at hTw
            refine lv_aload_n hE.1 hE.2.1 dX11_step_108 rfl (lv_at hl 0 rfl) ?_
            refine lv_iconst (v := nI 1) hE.1 hE.2.1 dX11_step_109 (by decide) ?_
            refine rm_puti hE hH hG fl_X11_121 rfl fn_X11_31 (v := nI 1) dX11_step_110 (fun H locs hH => ?_)
            refine lv_goto (tgt := 211) hE.1 hE.2.1 dX11_step_113 (by decide) ?_
            refine lv_aload_n hE.1 hE.2.1 dX11_step_211 rfl (lv_at hl 0 rfl) ?_
            refine lv_aload_n hE.1 hE.2.1 dX11_step_212 rfl (lv_at hl 0 rfl) ?_
            refine rm_geti hE hH hG fl_X11_108 rfl (v := nI r) (h29) dX11_step_213 ?_
            refine rm_puti hE hH hG fl_X11_128 rfl fn_X11_34 (v := nI r) dX11_step_216 (fun H locs hH => ?_)
            exact rg_vret hE hr hlk hH ⟨rfl, rfl, by rw [hq, hTw]; exact ⟨h29, rfl, h32, h33, rfl⟩, Fr.up (Fr.up hF (by decide)) (by decide)⟩ dX11_step_219
          · rw [wsI_b hX.2.2.2, Bool.and_eq_true, decide_eq_true_eq] at c92
            obtain ⟨hrn2, hw2⟩ := c92
            refine lv_aload_n hE.1 hE.2.1 dX11_step_95 rfl (lv_at hl 0 rfl) ?_
            refine lv_dup hE.1 hE.2.1 dX11_step_96 rfl ?_
            refine rm_geti hE hH hG fl_X11_108 rfl (v := nI r) (h29) dX11_step_97 ?_
            refine lv_iconst (v := nI 1) hE.1 hE.2.1 dX11_step_100 (by decide) ?_
            refine rn_iadd hE dX11_step_101 ?_
            refine rm_puti hE hH hG fl_X11_108 rfl fn_X11_29 (v := nI (r + 1)) dX11_step_102 (fun H locs hH => ?_)
            refine lv_goto (tgt := 81) hE.1 hE.2.1 dX11_step_105 (by decide) ?_
            exact ih81 (up2 iv2 0 29 (nI (r + 1)), r + 1) _ _ _ (show n - (r + 1) < n - r by omega) ⟨rfl, h33, h32, Fr.up hF (by decide), by show r + 1 ≤ n; omega, by dsimp only; rw [← hr2, rowE_go (q := fun i => isWS (B i)) (by omega) hw2]⟩ (lv_sub hl [0] rfl) hH
      · rw [bAt_m1 hX.2.2.2] at c63
        have hT0 := tok_end (B := B) c63
        refine lv_aload_n hE.1 hE.2.1 dX11_step_66 rfl (lv_at hl 1 rfl) ?_
        refine lv_iconst (v := nI 0) hE.1 hE.2.1 dX11_step_67 (by decide) ?_
        refine rm_puti hE hH hG fl_X11_121 rfl fn_X11_31 (v := nI 0) dX11_step_68 (fun H locs hH => ?_)
        refine lv_goto (tgt := 211) hE.1 hE.2.1 dX11_step_71 (by decide) ?_
        refine lv_aload_n hE.1 hE.2.1 dX11_step_211 rfl (lv_at hl 1 rfl) ?_
        refine lv_aload_n hE.1 hE.2.1 dX11_step_212 rfl (lv_at hl 1 rfl) ?_
        refine rm_geti hE hH hG fl_X11_108 rfl (v := nI q) (h29) dX11_step_213 ?_
        refine rm_puti hE hH hG fl_X11_128 rfl fn_X11_34 (v := nI q) dX11_step_216 (fun H locs hH => ?_)
        exact rg_vret hE hr hlk hH ⟨rfl, rfl, by rw [hq, hT0]; exact ⟨h29, rfl, rfl, rfl, rfl⟩, Fr.up (Fr.up (Fr.up (Fr.up hF (by decide)) (by decide)) (by decide)) (by decide)⟩ dX11_step_219
    · rw [bAt_eq hX.2.2.2 (by decide)] at c23
      have hbl : isBl (B q) = true := by simp [isBl, c23.2]
      have hqn2 := c23.1
      refine lv_aload_n hE.1 hE.2.1 dX11_step_26 rfl (lv_at hl 0 rfl) ?_
      refine lv_dup hE.1 hE.2.1 dX11_step_27 rfl ?_
      refine rm_geti hE hH hG fl_X11_108 rfl (v := nI q) (h29) dX11_step_28 ?_
      refine lv_iconst (v := nI 1) hE.1 hE.2.1 dX11_step_31 (by decide) ?_
      refine rn_iadd hE dX11_step_32 ?_
      refine rm_puti hE hH hG fl_X11_108 rfl fn_X11_29 (v := nI (q + 1)) dX11_step_33 (fun H locs hH => ?_)
      refine lv_goto (tgt := 0) hE.1 hE.2.1 dX11_step_36 (by decide) ?_
      exact ih0 (up2 iv1 0 29 (nI (q + 1)), q + 1) _ _ _ (show n - (q + 1) < n - q by omega) ⟨rfl, Fr.up hF (by decide), by show q + 1 ≤ n; omega, by dsimp only; rw [← hq, rowE_go (q := fun i => isBl (B i)) (by omega) hbl]⟩ (lv_sub hl [0] rfl) hH
