theorem getD_app_len {α : Type} {l : List α} {x d : α} {k : Nat} (h : l.length = k) : (l ++ [x]).getD k d = x := by subst h; exact getD_app_eq
theorem nd_0 {B : Nat → Nat} {n bad c : Nat} {t : Tok} (h : (nd B n bad t c).1 = 0) : bad = 0 := by
  unfold nd at h
  split at h
  · rename_i h1; exact absurd h h1
  · rename_i h1; exact Classical.not_not.mp h1
theorem rdV_0 {B : Nat → Nat} {n : Nat} {vs : List Wd} {bad : Nat} {t : Tok} (h : (rdV B n vs bad t).1 = 0) : bad = 0 := by
  unfold rdV at h
  split at h
  · rename_i h1; exact absurd h h1
  · rename_i h1; exact Classical.not_not.mp h1
set_option maxRecDepth 100000 in
set_option maxHeartbeats 4000000 in
theorem c_readTable (l : Launch) (z : ZK) (G : GW) (hG : isM G) (iv : IV) (jv : JV) (B : Nat → Nat) (n T : Nat) (hT : T < 6) (hX : TX iv B n) (h29 : iv 0 29 = nI 0) (h35 : iv 0 35 = nI 0) : cV l z yX11_readTable cX11_readTable 4 none 9 196 0 0 [.ref (G.ad 0), .int (nI T)] G iv jv (fun G' iv' jv' => G = G' ∧ jv = jv' ∧ (MP iv' B n (rdTable B n).1 (rdTable B n).2.2 ∧ ((rdTable B n).1 = 0 → TABL iv' T (rdTable B n).2.1)) ∧ Fr iv iv' (pT T)) := by
  intro sz
  refine rg_entry rfl (Nat.le_of_ble_eq_true rfl) ?_
  intro pq eq sq mq bq methq cq ls hE hr hlk hml hnm hl hsz hH
  have hl : lv_has ls 4 [(0, .ref (G.ad 0)), (1, .int (nI T))] := hl
  refine rg_join (σ := IV × Nat × List Col × List Wd × List Row × Tok) (nL := 4) (pcJ := 135) hH (fun (u : IV × Nat × List Col × List Wd × List Row × Tok) => match u with | (iv2, b2, ins, outs, rows, t4) => [(0, .ref (G.ad 0)), (1, .int (nI T))]) (fun (u : IV × Nat × List Col × List Wd × List Row × Tok) => match u with | (iv2, b2, ins, outs, rows, t4) => []) (fun (u : IV × Nat × List Col × List Wd × List Row × Tok) => match u with | (iv2, b2, ins, outs, rows, t4) => G) (fun (u : IV × Nat × List Col × List Wd × List Row × Tok) => match u with | (iv2, b2, ins, outs, rows, t4) => iv2) (fun (u : IV × Nat × List Col × List Wd × List Row × Tok) => match u with | (iv2, b2, ins, outs, rows, t4) => jv) (fun (u : IV × Nat × List Col × List Wd × List Row × Tok) => match u with | (iv2, b2, ins, outs, rows, t4) => MP iv2 B n b2 t4 ∧ Fr iv iv2 (pT T) ∧ (b2 = 0 → INS iv2 T ins ∧ ins.length ≠ 0 ∧ VS iv2 T 5 outs ∧ ROWS iv2 T ins.length rows ∧ rdTable B n = ((rdRows B n ins outs (41 - rows.length) rows t4).1, (ins, outs, (rdRows B n ins outs (41 - rows.length) rows t4).2.1), (rdRows B n ins outs (41 - rows.length) rows t4).2.2)) ∧ (b2 ≠ 0 → (rdTable B n).1 = b2 ∧ (rdTable B n).2.2 = t4)) ?_ (fun J135 => ?_)
  · rintro ⟨iv2, b2, ins, outs, rows, t4⟩ H locs ls ⟨hM, hFr, hz2, hnz2⟩ hl hH
    try dsimp only at hl hH
    refine rg_loop (σ := IV × Nat × List Col × List Wd × List Row × Tok) (nL := 4) (fun (u : IV × Nat × List Col × List Wd × List Row × Tok) => match u with | (iv2, b2, ins, outs, rows, t4) => if b2 = 0 then 42 - rows.length else 0) (fun (u : IV × Nat × List Col × List Wd × List Row × Tok) => match u with | (iv2, b2, ins, outs, rows, t4) => [(0, .ref (G.ad 0)), (1, .int (nI T))]) (fun (u : IV × Nat × List Col × List Wd × List Row × Tok) => match u with | (iv2, b2, ins, outs, rows, t4) => G) (fun (u : IV × Nat × List Col × List Wd × List Row × Tok) => match u with | (iv2, b2, ins, outs, rows, t4) => iv2) (fun (u : IV × Nat × List Col × List Wd × List Row × Tok) => match u with | (iv2, b2, ins, outs, rows, t4) => jv) (fun (u : IV × Nat × List Col × List Wd × List Row × Tok) => match u with | (iv2, b2, ins, outs, rows, t4) => MP iv2 B n b2 t4 ∧ Fr iv iv2 (pT T) ∧ (b2 = 0 → INS iv2 T ins ∧ ins.length ≠ 0 ∧ VS iv2 T 5 outs ∧ ROWS iv2 T ins.length rows ∧ rdTable B n = ((rdRows B n ins outs (41 - rows.length) rows t4).1, (ins, outs, (rdRows B n ins outs (41 - rows.length) rows t4).2.1), (rdRows B n ins outs (41 - rows.length) rows t4).2.2)) ∧ (b2 ≠ 0 → (rdTable B n).1 = b2 ∧ (rdTable B n).2.2 = t4)) ?_ ((iv2, b2, ins, outs, rows, t4)) ⟨hM, hFr, hz2, hnz2⟩ (lv_sub hl [0, 1] rfl) hH
    rintro ⟨iv2, b2, ins, outs, rows, t4⟩ H locs ls ⟨hM, hFr, hz2, hnz2⟩ hl hH ih135
    try dsimp only at hl hH ih135
    try dsimp only at hM hFr hz2 hnz2
    have hb42 := hM.2.2.2.2.1
    refine lv_aload_n hE.1 hE.2.1 dX11_readTable_135 rfl (lv_at hl 0 rfl) ?_
    refine rm_geti hE hH hG fl_X11_131 rfl (v := nI b2) (hM.2.2.2.1) dX11_readTable_136 ?_
    refine rn_if_ne (tgt := 285) hE dX11_readTable_139 (by decide) (by omega) (fun c139 => ?_) (fun c139 => ?_)
    · have hfin2 := hnz2 c139
      exact rg_vret hE hr hlk hH ⟨rfl, rfl, by rw [hfin2.1, hfin2.2]; exact ⟨hM, fun h => absurd h c139⟩, hFr⟩ dX11_readTable_285
    · subst c139
      obtain ⟨hI, hine, hV5, hR, hRT⟩ := hz2 rfl
      have h5 := hI.2.1
      have h40 := hR.2.1
      rw [rdRows_go h40] at hRT
      refine lv_aload_n hE.1 hE.2.1 dX11_readTable_142 rfl (lv_at hl 0 rfl) ?_
      refine rm_geti hE hH hG fl_X11_121 rfl (v := nI (tk t4)) (hM.2.1.2.1) dX11_readTable_143 ?_
      refine rn_if_eq (tgt := 285) hE dX11_readTable_146 (by decide) (by have := (TV_b hM.2.2.1).2.2.2.2.1; omega) (fun c146 => ?_) (fun c146 => ?_)
      · rw [if_pos c146] at hRT
        exact rg_vret hE hr hlk hH ⟨rfl, rfl, by rw [hRT]; exact ⟨hM, fun _ => ⟨hI, hine, hV5, hR⟩⟩, hFr⟩ dX11_readTable_285
      · rw [if_neg c146] at hRT
        refine lv_aload_n hE.1 hE.2.1 dX11_readTable_149 rfl (lv_at hl 0 rfl) ?_
        refine rs_ldc (i := 21) hE (by decide) rfl rfl dX11_readTable_150 ?_
        refine rg_VI (As := [.ref (z.1 21)]) (rest := []) hE hml hH mc_X11_149 (c_is l z G hG iv2 jv B n 0 t4 hM 21 (by decide)) hG.1.1 hG.1.2 (by decide) rfl ⟨Nat.le_of_ble_eq_true rfl, Nat.le_of_ble_eq_true rfl⟩ rfl hl.1 (by simp [Value.category]) dX11_readTable_152 ⟨Nat.le_of_ble_eq_true rfl, Nat.le_of_ble_eq_true rfl⟩ (fun r152 G152 iv152 jv152 H locs hp152 hH => ?_)
        obtain ⟨rfl, rfl, rfl, rfl⟩ := hp152
        refine rn_ifb_ne (tgt := 166) hE dX11_readTable_155 (by decide) (fun c155 => ?_) (fun c155 => ?_)
        · rw [kw0] at c155
          rw [if_neg (by simp [c155])] at hRT
          refine lv_aload_n hE.1 hE.2.1 dX11_readTable_166 rfl (lv_at hl 0 rfl) ?_
          refine rm_getr hE hH hG fl_X11_23 rfl (by decide) dX11_readTable_167 ?_
          refine lv_iload_n hE.1 hE.2.1 dX11_readTable_170 rfl (lv_at hl 1 rfl) ?_
          refine rm_iald hE hH hG (k := 9) (by decide) rfl (N := 6) rfl (n := T) (by omega) (v := nI rows.length) (hR.1) dX11_readTable_171 ?_
          refine lv_bipush (v := nI 40) hE.1 hE.2.1 dX11_readTable_172 (by decide) ?_
          refine rn_icmp_ne (tgt := 182) hE dX11_readTable_174 (by decide) (by omega) (by omega) (fun c174 => ?_) (fun c174 => ?_)
          · rw [if_neg c174] at hRT
            refine lv_aload_n hE.1 hE.2.1 dX11_readTable_182 rfl (lv_at hl 0 rfl) ?_
            refine rm_geti hE hH hG fl_X11_131 rfl (v := nI 0) (hM.2.2.2.1) dX11_readTable_183 ?_
            refine rn_if_eq (tgt := 190) hE dX11_readTable_186 (by decide) (by omega) (fun c186 => ?_) (fun c186 => ?_)
            · refine lv_aload_n hE.1 hE.2.1 dX11_readTable_190 rfl (lv_at hl 0 rfl) ?_
              refine rg_VV (As := []) (rest := []) hE hml hH mc_X11_172 (c_step l z G hG iv2 jv B n (te t4) hM.1 (TV_b hM.2.2.1).2.1 hM.2.1.1) hG.1.1 hG.1.2 (by decide) rfl ⟨Nat.le_of_ble_eq_true rfl, Nat.le_of_ble_eq_true rfl⟩ rfl hl.1 (by simp [Value.category]) dX11_readTable_191 ⟨Nat.le_of_ble_eq_true rfl, Nat.le_of_ble_eq_true rfl⟩ (fun G191 iv191 jv191 H locs hp191 hH => ?_)
              obtain ⟨rfl, rfl, hTR191, hF191⟩ := hp191
              have hM := MP.step hM hTR191 hF191
              have hFr := hFr.tr ((pS_pQ hF191).mono (fun _ _ h => Or.inl h))
              have hI := hI.fr hF191 (by simp) (fun _ _ _ => by simp) (fun _ _ _ => by simp) (fun _ _ _ => by simp)
              have hV5 := hV5.fr hF191 (by simp) (fun _ _ => by simp) (fun _ _ _ _ => by simp)
              have hR := hR.fr h5 hF191 (by simp) (fun _ _ _ => by simp) (fun _ _ _ => by simp)
              refine lv_bipush (v := nI 40) hE.1 hE.2.1 dX11_readTable_194 (by decide) ?_
              refine lv_iload_n hE.1 hE.2.1 dX11_readTable_196 rfl (lv_at hl 1 rfl) ?_
              refine rn_imul hE dX11_readTable_197 ?_
              refine lv_aload_n hE.1 hE.2.1 dX11_readTable_198 rfl (lv_at hl 0 rfl) ?_
              refine rm_getr hE hH hG fl_X11_23 rfl (by decide) dX11_readTable_199 ?_
              refine lv_iload_n hE.1 hE.2.1 dX11_readTable_202 rfl (lv_at hl 1 rfl) ?_
              refine rm_iald hE hH hG (k := 9) (by decide) rfl (N := 6) rfl (n := T) (by omega) (v := nI rows.length) (hR.1) dX11_readTable_203 ?_
              refine rn_iadd hE dX11_readTable_204 ?_
              refine lv_istore_n (lv' := [(2, .int (nI (40 * T + rows.length))), (0, .ref (G.ad 0)), (1, .int (nI T))]) hE.1 hE.2.1 dX11_readTable_205 rfl hl (by decide) rfl (fun ls hl => ?_)
              refine lv_iconst (v := nI 0) hE.1 hE.2.1 dX11_readTable_206 (by decide) ?_
              refine lv_istore_n (lv' := [(3, .int (nI 0)), (2, .int (nI (40 * T + rows.length))), (0, .ref (G.ad 0)), (1, .int (nI T))]) hE.1 hE.2.1 dX11_readTable_207 rfl hl (by decide) rfl (fun ls hl => ?_)
              refine rg_loop (σ := IV × Nat) (nL := 4) (fun (u : IV × Nat) => match u with | (iv3, i) => ins.length - i) (fun (u : IV × Nat) => match u with | (iv3, i) => [(0, .ref (G.ad 0)), (1, .int (nI T)), (2, .int (nI (40 * T + rows.length))), (3, .int (nI i))]) (fun (u : IV × Nat) => match u with | (iv3, i) => G) (fun (u : IV × Nat) => match u with | (iv3, i) => iv3) (fun (u : IV × Nat) => match u with | (iv3, i) => jv) (fun (u : IV × Nat) => match u with | (iv3, i) => i ≤ ins.length ∧ MP iv3 B n (rcI B n (colsOf ins) i 0 (nx B n t4)).1 (rcI B n (colsOf ins) i 0 (nx B n t4)).2.2 ∧ Fr iv191 iv3 (fun lb j => (lb = 0 ∧ 29 ≤ j ∧ j ≤ 36 ∧ j ≠ 30) ∨ (lb = 13 ∧ 5 * (40 * T + rows.length) ≤ j ∧ j < 5 * (40 * T + rows.length) + 5)) ∧ ((rcI B n (colsOf ins) i 0 (nx B n t4)).1 = 0 → ∀ j, j < i → iv3 13 (5 * (40 * T + rows.length) + j) = nI ((rcI B n (colsOf ins) i 0 (nx B n t4)).2.1.getD j 0))) ?_ ((iv191, 0)) ⟨Nat.zero_le _, hM, Fr.rf, fun _ j hj => absurd hj (Nat.not_lt_zero j)⟩ (lv_sub hl [2, 3, 1, 0] rfl) hH
              rintro ⟨iv3, i⟩ H locs ls ⟨hil, hM, hF3, hcl⟩ hl hH ih208
              try dsimp only at hl hH ih208
              try dsimp only at hil hM hF3 hcl
              have hI3 := hI.fr hF3 (by simp) (fun _ _ _ => by simp) (fun _ _ _ => by simp) (fun _ _ _ => by simp)
              have hV53 := hV5.fr hF3 (by simp) (fun _ _ => by simp) (fun _ _ _ _ => by simp)
              refine lv_iload_n hE.1 hE.2.1 dX11_readTable_208 rfl (lv_at hl 3 rfl) ?_
              refine lv_aload_n hE.1 hE.2.1 dX11_readTable_209 rfl (lv_at hl 0 rfl) ?_
              refine rm_getr hE hH hG fl_X11_20 rfl (by decide) dX11_readTable_210 ?_
              refine lv_iload_n hE.1 hE.2.1 dX11_readTable_213 rfl (lv_at hl 1 rfl) ?_
              refine rm_iald hE hH hG (k := 8) (by decide) rfl (N := 6) rfl (n := T) (by omega) (v := nI ins.length) (hI3.1) dX11_readTable_214 ?_
              refine rn_icmp_ge (tgt := 240) hE dX11_readTable_215 (by decide) (by omega) (by omega) (fun c215 => ?_) (fun c215 => ?_)
              · have hie : i = ins.length := by omega
                subst hie
                have hFr := hFr.tr (hF3.mono (fun lb j h => by rcases h with h | h; exact Or.inl h; simp only [pT]; omega))
                refine lv_aload_n hE.1 hE.2.1 dX11_readTable_240 rfl (lv_at hl 0 rfl) ?_
                refine lv_sipush (v := nI 256) hE.1 hE.2.1 dX11_readTable_241 (by decide) ?_
                refine rg_VV (As := [.int (nI 256)]) (rest := []) hE hml hH mc_X11_196 (c_need l z G hG iv3 jv B n ((rcI B n (colsOf ins) ins.length 0 (nx B n t4)).1) ((rcI B n (colsOf ins) ins.length 0 (nx B n t4)).2.2) hM 256 (by decide)) hG.1.1 hG.1.2 (by decide) rfl ⟨Nat.le_of_ble_eq_true rfl, Nat.le_of_ble_eq_true rfl⟩ rfl hl.1 (by simp [Value.category]) dX11_readTable_244 ⟨Nat.le_of_ble_eq_true rfl, Nat.le_of_ble_eq_true rfl⟩ (fun G244 iv244 jv244 H locs hp244 hH => ?_)
                obtain ⟨rfl, rfl, hM, hF244⟩ := hp244
                have hFr := hFr.tr (hF244.mono (fun _ _ h => Or.inl h))
                have hcl : (rcI B n (colsOf ins) ins.length 0 (nx B n t4)).1 = 0 → ∀ j, j < ins.length → iv244 13 (5 * (40 * T + rows.length) + j) = nI ((rcI B n (colsOf ins) ins.length 0 (nx B n t4)).2.1.getD j 0) := fun h j hj => (hF244 13 _ (by simp)).trans (hcl h j hj)
                have hV53 := hV53.fr hF244 (by simp) (fun _ _ => by simp) (fun _ _ _ _ => by simp)
                refine lv_aload_n hE.1 hE.2.1 dX11_readTable_247 rfl (lv_at hl 0 rfl) ?_
                refine rm_getr hE hH hG fl_X11_38 rfl (by decide) dX11_readTable_248 ?_
                refine lv_iload_n hE.1 hE.2.1 dX11_readTable_251 rfl (lv_at hl 2 rfl) ?_
                refine lv_aload_n hE.1 hE.2.1 dX11_readTable_252 rfl (lv_at hl 0 rfl) ?_
                refine lv_iload_n hE.1 hE.2.1 dX11_readTable_253 rfl (lv_at hl 1 rfl) ?_
                refine lv_iconst (v := nI 5) hE.1 hE.2.1 dX11_readTable_254 (by decide) ?_
                refine rg_VI (As := [.int (nI T), .int (nI 5)]) (rest := [.int (nI (40 * T + rows.length)), .ref (G.ad 14)]) hE hml hH mc_X11_202 (c_readValue l z G hG iv244 jv B n (nd B n (rcI B n (colsOf ins) ins.length 0 (nx B n t4)).1 (rcI B n (colsOf ins) ins.length 0 (nx B n t4)).2.2 256).1 (nd B n (rcI B n (colsOf ins) ins.length 0 (nx B n t4)).1 (rcI B n (colsOf ins) ins.length 0 (nx B n t4)).2.2 256).2 hM T 5 hT (by decide) outs hV53) hG.1.1 hG.1.2 (by decide) rfl ⟨Nat.le_of_ble_eq_true rfl, Nat.le_of_ble_eq_true rfl⟩ rfl hl.1 (by simp [Value.category]) dX11_readTable_255 ⟨Nat.le_of_ble_eq_true rfl, Nat.le_of_ble_eq_true rfl⟩ (fun r255 G255 iv255 jv255 H locs hp255 hH => ?_)
                obtain ⟨rfl, rfl, ⟨hM, hrv255⟩, hF255⟩ := hp255
                have hFr := hFr.tr (hF255.mono (fun _ _ h => Or.inl h))
                refine rm_iast hE hH hG (k := 14) (by decide) rfl (N := 240) rfl (n := 40 * T + rows.length) (by omega) (v := r255) dX11_readTable_258 (fun H locs hH => ?_)
                have hM := hM.up 14 (40 * T + rows.length) r255 (by decide) (by decide)
                have hFr : Fr iv (up2 iv255 14 (40 * T + rows.length) r255) (pT T) := Fr.up hFr (Or.inr (Or.inr (Or.inr (Or.inr (Or.inr (Or.inr (Or.inr ⟨rfl, by omega, by omega⟩)))))))
                refine lv_aload_n hE.1 hE.2.1 dX11_readTable_259 rfl (lv_at hl 0 rfl) ?_
                refine lv_bipush (v := nI 59) hE.1 hE.2.1 dX11_readTable_260 (by decide) ?_
                refine rg_VV (As := [.int (nI 59)]) (rest := []) hE hml hH mc_X11_196 (c_need l z G hG (up2 iv255 14 (40 * T + rows.length) r255) jv B n ((rdV B n outs ((nd B n ((rcI B n (colsOf ins) ins.length 0 (nx B n t4)).1) ((rcI B n (colsOf ins) ins.length 0 (nx B n t4)).2.2) 256).1) ((nd B n ((rcI B n (colsOf ins) ins.length 0 (nx B n t4)).1) ((rcI B n (colsOf ins) ins.length 0 (nx B n t4)).2.2) 256).2)).1) ((rdV B n outs ((nd B n ((rcI B n (colsOf ins) ins.length 0 (nx B n t4)).1) ((rcI B n (colsOf ins) ins.length 0 (nx B n t4)).2.2) 256).1) ((nd B n ((rcI B n (colsOf ins) ins.length 0 (nx B n t4)).1) ((rcI B n (colsOf ins) ins.length 0 (nx B n t4)).2.2) 256).2)).2.2) hM 59 (by decide)) hG.1.1 hG.1.2 (by decide) rfl ⟨Nat.le_of_ble_eq_true rfl, Nat.le_of_ble_eq_true rfl⟩ rfl hl.1 (by simp [Value.category]) dX11_readTable_262 ⟨Nat.le_of_ble_eq_true rfl, Nat.le_of_ble_eq_true rfl⟩ (fun G262 iv262 jv262 H locs hp262 hH => ?_)
                obtain ⟨rfl, rfl, hM, hF262⟩ := hp262
                have hFr := hFr.tr (hF262.mono (fun _ _ h => Or.inl h))
                have hMr : MP iv262 B n (rdRow B n (colsOf ins) ins.length outs (nx B n t4)).1 (rdRow B n (colsOf ins) ins.length outs (nx B n t4)).2.2 := hM
                have hM := hMr
                obtain ⟨-, -, -, -, -, hb262⟩ := hM.b
                have hT3 : Fr iv191 iv262 (fun lb j => (lb = 0 ∧ 29 ≤ j ∧ j ≤ 36 ∧ j ≠ 30) ∨ (lb = 13 ∧ 5 * (40 * T + rows.length) ≤ j ∧ j < 5 * (40 * T + rows.length) + 5) ∨ (lb = 14 ∧ j = 40 * T + rows.length)) := by
                  refine Fr.tr ?_ (hF262.mono (fun lb j h => Or.inl h))
                  refine Fr.up ?_ (Or.inr (Or.inr ⟨rfl, rfl⟩))
                  exact ((hF3.mono (fun lb j h => h.elim Or.inl (fun h => Or.inr (Or.inl h)))).tr (hF244.mono (fun lb j h => Or.inl h))).tr (hF255.mono (fun lb j h => Or.inl h))
                have hI := hI.fr hT3 (by simp) (fun _ _ _ => by simp) (fun _ _ _ => by simp) (fun _ _ _ => by simp)
                have hV5 := hV5.fr hT3 (by simp) (fun _ _ => by simp) (fun _ _ _ _ => by simp)
                have hR := hR.fr h5 hT3 (by simp) (fun j h1 h2 => by simp; omega) (fun j h1 h2 => by simp; omega)
                refine lv_aload_n hE.1 hE.2.1 dX11_readTable_265 rfl (lv_at hl 0 rfl) ?_
                refine rm_geti hE hH hG fl_X11_131 rfl (v := nI ((rdRow B n (colsOf ins) ins.length outs (nx B n t4)).1)) (hM.2.2.2.1) dX11_readTable_266 ?_
                refine rn_if_ne (tgt := 282) hE dX11_readTable_269 (by decide) (by omega) (fun c269 => ?_) (fun c269 => ?_)
                · refine lv_goto (tgt := 135) hE.1 hE.2.1 dX11_readTable_282 (by decide) ?_
                  exact ih135 (iv262, (rdRow B n (colsOf ins) ins.length outs (nx B n t4)).1, ins, outs, rows, (rdRow B n (colsOf ins) ins.length outs (nx B n t4)).2.2) _ _ _ (show (if _ then _ else _) < (if _ then _ else _) by rw [if_neg c269, if_pos rfl]; omega) ⟨hM, hFr, fun h => absurd h c269, fun _ => by rw [hRT, if_pos c269]; exact ⟨rfl, rfl⟩⟩ (lv_sub hl [0, 1] rfl) hH
                · rw [if_neg (by simp [c269])] at hRT
                  rw [c269] at hM
                  have hv0 : (rdV B n outs (nd B n (rcI B n (colsOf ins) ins.length 0 (nx B n t4)).1 (rcI B n (colsOf ins) ins.length 0 (nx B n t4)).2.2 256).1 (nd B n (rcI B n (colsOf ins) ins.length 0 (nx B n t4)).1 (rcI B n (colsOf ins) ins.length 0 (nx B n t4)).2.2 256).2).1 = 0 := nd_0 (show (nd B n _ _ 59).1 = 0 from c269)
                  have ha0 : (nd B n (rcI B n (colsOf ins) ins.length 0 (nx B n t4)).1 (rcI B n (colsOf ins) ins.length 0 (nx B n t4)).2.2 256).1 = 0 := rdV_0 hv0
                  have hq0 : (rcI B n (colsOf ins) ins.length 0 (nx B n t4)).1 = 0 := nd_0 ha0
                  have hcl2 : ∀ j, j < ins.length → iv262 13 (5 * (40 * T + rows.length) + j) = nI ((rcI B n (colsOf ins) ins.length 0 (nx B n t4)).2.1.getD j 0) := fun j hj => (hF262 13 _ (by simp)).trans ((hF255 13 _ (by simp)).trans (hcl hq0 j hj))
                  have h14 : iv262 14 (40 * T + rows.length) = nI (rdV B n outs (nd B n (rcI B n (colsOf ins) ins.length 0 (nx B n t4)).1 (rcI B n (colsOf ins) ins.length 0 (nx B n t4)).2.2 256).1 (nd B n (rcI B n (colsOf ins) ins.length 0 (nx B n t4)).1 (rcI B n (colsOf ins) ins.length 0 (nx B n t4)).2.2 256).2).2.1 := (hF262 14 _ (by simp)).trans (up2_s.trans (hrv255 hv0))
                  refine lv_aload_n hE.1 hE.2.1 dX11_readTable_272 rfl (lv_at hl 0 rfl) ?_
                  refine rm_getr hE hH hG fl_X11_23 rfl (by decide) dX11_readTable_273 ?_
                  refine lv_iload_n hE.1 hE.2.1 dX11_readTable_276 rfl (lv_at hl 1 rfl) ?_
                  refine lv_dup2_11 hE.1 hE.2.1 dX11_readTable_277 rfl rfl ?_
                  refine rm_iald hE hH hG (k := 9) (by decide) rfl (N := 6) rfl (n := T) (by omega) (v := nI rows.length) (hR.1) dX11_readTable_278 ?_
                  refine lv_iconst (v := nI 1) hE.1 hE.2.1 dX11_readTable_279 (by decide) ?_
                  refine rn_iadd hE dX11_readTable_280 ?_
                  refine rm_iast hE hH hG (k := 9) (by decide) rfl (N := 6) rfl (n := T) (by omega) (v := nI (rows.length + 1)) dX11_readTable_281 (fun H locs hH => ?_)
                  have hU9 : Fr iv262 (up2 iv262 9 T (nI (rows.length + 1))) (fun lb _ => lb = 9) := Fr.up Fr.rf rfl
                  have hM := hM.up 9 T (nI (rows.length + 1)) (by decide) (by decide)
                  have hFr : Fr iv (up2 iv262 9 T (nI (rows.length + 1))) (pT T) := Fr.up hFr (Or.inr (Or.inr (Or.inl ⟨rfl, rfl⟩)))
                  have hI := hI.fr hU9 (by simp) (fun _ _ _ => by simp) (fun _ _ _ => by simp) (fun _ _ _ => by simp)
                  have hV5 := hV5.fr hU9 (by simp) (fun _ _ => by simp) (fun _ _ _ _ => by simp)
                  have hR2 : ROWS (up2 iv262 9 T (nI (rows.length + 1))) T ins.length (rows ++ [(rdRow B n (colsOf ins) ins.length outs (nx B n t4)).2.1]) := by
                    refine ⟨by rw [List.length_append]; exact up2_s, by simp; omega, fun r hr => ?_⟩
                    by_cases hr2 : r < rows.length
                    · rw [getD_app_lt hr2]; exact hR.2.2 r hr2
                    · have hr3 : r = rows.length := by simp at hr; omega
                      subst hr3
                      rw [getD_app_eq]; exact ⟨hcl2, h14⟩
                  refine lv_goto (tgt := 135) hE.1 hE.2.1 dX11_readTable_282 (by decide) ?_
                  exact ih135 (up2 iv262 9 T (nI (rows.length + 1)), 0, ins, outs, rows ++ [(rdRow B n (colsOf ins) ins.length outs (nx B n t4)).2.1], (rdRow B n (colsOf ins) ins.length outs (nx B n t4)).2.2) _ _ _ (show (if _ then _ else _) < (if _ then _ else _) by rw [if_pos rfl, if_pos rfl]; simp; omega) ⟨hM, hFr, fun _ => ⟨hI, hine, hV5, hR2, hRT⟩, fun h => absurd rfl h⟩ (lv_sub hl [0, 1] rfl) hH
              · refine lv_aload_n hE.1 hE.2.1 dX11_readTable_218 rfl (lv_at hl 0 rfl) ?_
                refine rm_getr hE hH hG fl_X11_35 rfl (by decide) dX11_readTable_219 ?_
                refine lv_iconst (v := nI 5) hE.1 hE.2.1 dX11_readTable_222 (by decide) ?_
                refine lv_iload_n hE.1 hE.2.1 dX11_readTable_223 rfl (lv_at hl 2 rfl) ?_
                refine rn_imul hE dX11_readTable_224 ?_
                refine lv_iload_n hE.1 hE.2.1 dX11_readTable_225 rfl (lv_at hl 3 rfl) ?_
                refine rn_iadd hE dX11_readTable_226 ?_
                refine lv_aload_n hE.1 hE.2.1 dX11_readTable_227 rfl (lv_at hl 0 rfl) ?_
                refine lv_iload_n hE.1 hE.2.1 dX11_readTable_228 rfl (lv_at hl 1 rfl) ?_
                refine lv_iload_n hE.1 hE.2.1 dX11_readTable_229 rfl (lv_at hl 3 rfl) ?_
                refine rg_VI (As := [.int (nI T), .int (nI i)]) (rest := [.int (nI (5 * (40 * T + rows.length) + i)), .ref (G.ad 13)]) hE hml hH mc_X11_212 (c_readCell l z G hG iv3 jv B n (rcI B n (colsOf ins) i 0 (nx B n t4)).1 (rcI B n (colsOf ins) i 0 (nx B n t4)).2.2 hM T i hT (by omega) (colsOf ins i) (hI3.2.2.1 i (by omega)).2) hG.1.1 hG.1.2 (by decide) rfl ⟨Nat.le_of_ble_eq_true rfl, Nat.le_of_ble_eq_true rfl⟩ rfl hl.1 (by simp [Value.category]) dX11_readTable_230 ⟨Nat.le_of_ble_eq_true rfl, Nat.le_of_ble_eq_true rfl⟩ (fun r230 G230 iv230 jv230 H locs hp230 hH => ?_)
                obtain ⟨rfl, rfl, ⟨hM, hrc230⟩, hF230⟩ := hp230
                have hF3 := hF3.tr (hF230.mono (fun _ _ h => Or.inl h))
                refine rm_iast hE hH hG (k := 13) (by decide) rfl (N := 1200) rfl (n := 5 * (40 * T + rows.length) + i) (by omega) (v := r230) dX11_readTable_233 (fun H locs hH => ?_)
                have hM := hM.up 13 (5 * (40 * T + rows.length) + i) r230 (by decide) (by decide)
                have hF3 : Fr iv191 (up2 iv230 13 (5 * (40 * T + rows.length) + i) r230) (fun lb j => (lb = 0 ∧ 29 ≤ j ∧ j ≤ 36 ∧ j ≠ 30) ∨ (lb = 13 ∧ 5 * (40 * T + rows.length) ≤ j ∧ j < 5 * (40 * T + rows.length) + 5)) := Fr.up hF3 (Or.inr ⟨rfl, by omega, by omega⟩)
                refine lv_iinc (v := nI (i + 1)) (lv' := [(3, .int (nI (i + 1))), (0, .ref (G.ad 0)), (1, .int (nI T)), (2, .int (nI (40 * T + rows.length)))]) hE.1 hE.2.1 dX11_readTable_234 hl (k := 3) rfl (nI_1 _) (by decide) rfl (fun ls hl => ?_)
                refine lv_goto (tgt := 208) hE.1 hE.2.1 dX11_readTable_237 (by decide) ?_
                exact ih208 (up2 iv230 13 (5 * (40 * T + rows.length) + i) r230, i + 1) _ _ _ (show ins.length - (i + 1) < ins.length - i by omega) ⟨by show i + 1 ≤ ins.length; omega, hM, hF3, fun h j hj => by
                  dsimp only at h hj ⊢
                  simp only [rcI]
                  by_cases hji : j < i
                  · rw [up2_k (by omega), getD_app_lt (by rw [rcI_len]; exact hji)]
                    rw [hF230 13 _ (by simp)]
                    exact hcl (rcI_bad h) j hji
                  · have hji : j = i := by omega
                    subst hji
                    have e : (rcI B n (colsOf ins) j 0 (nx B n t4)).2.1.length = j := rcI_len j
                    rw [up2_s, hrc230 h, getD_app_len e]⟩ (lv_sub hl [1, 2, 3, 0] rfl) hH
            · omega
          · rw [if_pos c174] at hRT
            refine lv_aload_n hE.1 hE.2.1 dX11_readTable_177 rfl (lv_at hl 0 rfl) ?_
            refine lv_iconst (v := nI 2) hE.1 hE.2.1 dX11_readTable_178 (by decide) ?_
            refine rg_VV (As := [.int (nI 2)]) (rest := []) hE hml hH mc_X11_168 (c_wrong l z G hG iv2 jv B n 0 t4 hM 2 (by decide)) hG.1.1 hG.1.2 (by decide) rfl ⟨Nat.le_of_ble_eq_true rfl, Nat.le_of_ble_eq_true rfl⟩ rfl hl.1 (by simp [Value.category]) dX11_readTable_179 ⟨Nat.le_of_ble_eq_true rfl, Nat.le_of_ble_eq_true rfl⟩ (fun G179 iv179 jv179 H locs hp179 hH => ?_)
            obtain ⟨rfl, rfl, hM, hF179⟩ := hp179
            rw [if_pos rfl] at hM
            have hFr := hFr.tr (hF179.mono (fun _ _ h => Or.inl h))
            refine lv_aload_n hE.1 hE.2.1 dX11_readTable_182 rfl (lv_at hl 0 rfl) ?_
            refine rm_geti hE hH hG fl_X11_131 rfl (v := nI 2) (hM.2.2.2.1) dX11_readTable_183 ?_
            refine rn_if_eq (tgt := 190) hE dX11_readTable_186 (by decide) (by omega) (fun c186 => ?_) (fun c186 => ?_)
            · omega
            · exact rg_vret hE hr hlk hH ⟨rfl, rfl, by rw [hRT]; exact ⟨hM, fun h => absurd h (by simp)⟩, hFr⟩ dX11_readTable_189
        · rw [kw0] at c155
          rw [if_pos c155] at hRT
          refine lv_aload_n hE.1 hE.2.1 dX11_readTable_158 rfl (lv_at hl 0 rfl) ?_
          refine lv_iconst (v := nI 1) hE.1 hE.2.1 dX11_readTable_159 (by decide) ?_
          refine rg_VV (As := [.int (nI 1)]) (rest := []) hE hml hH mc_X11_168 (c_wrong l z G hG iv2 jv B n 0 t4 hM 1 (by decide)) hG.1.1 hG.1.2 (by decide) rfl ⟨Nat.le_of_ble_eq_true rfl, Nat.le_of_ble_eq_true rfl⟩ rfl hl.1 (by simp [Value.category]) dX11_readTable_160 ⟨Nat.le_of_ble_eq_true rfl, Nat.le_of_ble_eq_true rfl⟩ (fun G160 iv160 jv160 H locs hp160 hH => ?_)
          obtain ⟨rfl, rfl, hM, hF160⟩ := hp160
          rw [if_pos rfl] at hM
          have hFr := hFr.tr (hF160.mono (fun _ _ h => Or.inl h))
          refine lv_goto (tgt := 182) hE.1 hE.2.1 dX11_readTable_163 (by decide) ?_
          refine lv_aload_n hE.1 hE.2.1 dX11_readTable_182 rfl (lv_at hl 0 rfl) ?_
          refine rm_geti hE hH hG fl_X11_131 rfl (v := nI 1) (hM.2.2.2.1) dX11_readTable_183 ?_
          refine rn_if_eq (tgt := 190) hE dX11_readTable_186 (by decide) (by omega) (fun c186 => ?_) (fun c186 => ?_)
          · omega
          · exact rg_vret hE hr hlk hH ⟨rfl, rfl, by rw [hRT]; exact ⟨hM, fun h => absurd h (by simp)⟩, hFr⟩ dX11_readTable_189
  · refine lv_aload_n hE.1 hE.2.1 dX11_readTable_0 rfl (lv_at hl 0 rfl) ?_
    refine rm_getr hE hH hG fl_X11_20 rfl (by decide) dX11_readTable_1 ?_
    refine lv_iload_n hE.1 hE.2.1 dX11_readTable_4 rfl (lv_at hl 1 rfl) ?_
    refine lv_iconst (v := nI 0) hE.1 hE.2.1 dX11_readTable_5 (by decide) ?_
    refine rm_iast hE hH hG (k := 8) (by decide) rfl (N := 6) rfl (n := T) (by omega) (v := nI 0) dX11_readTable_6 (fun H locs hH => ?_)
    refine lv_aload_n hE.1 hE.2.1 dX11_readTable_7 rfl (lv_at hl 0 rfl) ?_
    refine rm_getr hE hH hG fl_X11_23 rfl (by decide) dX11_readTable_8 ?_
    refine lv_iload_n hE.1 hE.2.1 dX11_readTable_11 rfl (lv_at hl 1 rfl) ?_
    refine lv_iconst (v := nI 0) hE.1 hE.2.1 dX11_readTable_12 (by decide) ?_
    refine rm_iast hE hH hG (k := 9) (by decide) rfl (N := 6) rfl (n := T) (by omega) (v := nI 0) dX11_readTable_13 (fun H locs hH => ?_)
    have hX : TX (up2 (up2 iv 8 T (nI 0)) 9 T (nI 0)) B n := TX.fr hX (P := fun lb _ => lb = 8 ∨ lb = 9) (Fr.up (Fr.up Fr.rf (Or.inl rfl)) (Or.inr rfl)) (by simp) (fun k => by simp)
    have hFr : Fr iv (up2 (up2 iv 8 T (nI 0)) 9 T (nI 0)) (pT T) := Fr.up (Fr.up Fr.rf (Or.inr (Or.inl ⟨rfl, rfl⟩))) (Or.inr (Or.inr (Or.inl ⟨rfl, rfl⟩)))
    refine lv_aload_n hE.1 hE.2.1 dX11_readTable_14 rfl (lv_at hl 0 rfl) ?_
    refine rg_VV (As := []) (rest := []) hE hml hH mc_X11_172 (c_step l z G hG (up2 (up2 iv 8 T (nI 0)) 9 T (nI 0)) jv B n 0 hX (Nat.zero_le _) h29) hG.1.1 hG.1.2 (by decide) rfl ⟨Nat.le_of_ble_eq_true rfl, Nat.le_of_ble_eq_true rfl⟩ rfl hl.1 (by simp [Value.category]) dX11_readTable_15 ⟨Nat.le_of_ble_eq_true rfl, Nat.le_of_ble_eq_true rfl⟩ (fun G15 iv15 jv15 H locs hp15 hH => ?_)
    obtain ⟨rfl, rfl, hTR15, hF15⟩ := hp15
    have hM : MP iv15 B n 0 (tokAt B n 0) := ⟨TX.fr hX hF15 (by decide) (fun k => by simp), hTR15, TV_at (Nat.zero_le _), (hF15 0 35 (by decide)).trans h35, by decide, fun h => absurd rfl h⟩
    have hI : INS iv15 T [] := ⟨(hF15 8 T (by simp)).trans (by rw [up2_l (by decide)]; exact up2_s), by simp, fun o ho => absurd ho (Nat.not_lt_zero o), by decide⟩
    have h9 : iv15 9 T = nI 0 := (hF15 9 T (by simp)).trans up2_s
    have hFr := hFr.tr ((pS_pQ hF15).mono (fun _ _ h => Or.inl h))
    refine rg_loop (σ := IV × Nat × List Col × Tok) (nL := 4) (fun (u : IV × Nat × List Col × Tok) => match u with | (iv1, b, ins, t3) => if b = 0 then 7 - ins.length else 0) (fun (u : IV × Nat × List Col × Tok) => match u with | (iv1, b, ins, t3) => [(0, .ref (G.ad 0)), (1, .int (nI T))]) (fun (u : IV × Nat × List Col × Tok) => match u with | (iv1, b, ins, t3) => G) (fun (u : IV × Nat × List Col × Tok) => match u with | (iv1, b, ins, t3) => iv1) (fun (u : IV × Nat × List Col × Tok) => match u with | (iv1, b, ins, t3) => jv) (fun (u : IV × Nat × List Col × Tok) => match u with | (iv1, b, ins, t3) => MP iv1 B n b t3 ∧ Fr iv iv1 (pT T) ∧ iv1 9 T = nI 0 ∧ (b = 0 → INS iv1 T ins ∧ rdInputs B n (6 - ins.length) ins t3 = rdInputs B n 6 [] (tokAt B n 0)) ∧ (b ≠ 0 → rdInputs B n 6 [] (tokAt B n 0) = (b, ins, t3))) ?_ ((iv15, 0, [], tokAt B n 0)) ⟨hM, hFr, h9, fun _ => ⟨hI, rfl⟩, fun h => absurd rfl h⟩ (lv_sub hl [0, 1] rfl) hH
    rintro ⟨iv1, b, ins, t3⟩ H locs ls ⟨hM, hFr, h9, hz, hnz⟩ hl hH ih18
    try dsimp only at hl hH ih18
    try dsimp only at hM hFr h9 hz hnz
    have hb4 := hM.2.2.2.2.1
    refine lv_aload_n hE.1 hE.2.1 dX11_readTable_18 rfl (lv_at hl 0 rfl) ?_
    refine rm_geti hE hH hG fl_X11_131 rfl (v := nI b) (hM.2.2.2.1) dX11_readTable_19 ?_
    refine rn_if_ne (tgt := 121) hE dX11_readTable_22 (by decide) (by omega) (fun c22 => ?_) (fun c22 => ?_)
    · have hfin := hnz c22
      refine lv_aload_n hE.1 hE.2.1 dX11_readTable_121 rfl (lv_at hl 0 rfl) ?_
      refine rm_geti hE hH hG fl_X11_131 rfl (v := nI b) (hM.2.2.2.1) dX11_readTable_122 ?_
      refine rn_if_ne (tgt := 135) hE dX11_readTable_125 (by decide) (by omega) (fun c125 => ?_) (fun c125 => ?_)
      · exact J135 (iv1, b, ins, [], [], t3) _ _ _ ⟨hM, hFr, fun h => absurd h c22, fun h => by
          have e : rdTable B n = (b, (ins, [], []), t3) := by simp only [rdTable]; rw [hfin, if_pos c22]
          rw [e]; exact ⟨rfl, rfl⟩⟩ (lv_sub hl [0, 1] rfl) hH
      · exact absurd c125 c22
    · subst c22
      obtain ⟨hI, hri⟩ := hz rfl
      have h5 := hI.2.1
      rw [rdInputs_go h5] at hri
      refine lv_aload_n hE.1 hE.2.1 dX11_readTable_25 rfl (lv_at hl 0 rfl) ?_
      refine rm_getr hE hH hG fl_X11_20 rfl (by decide) dX11_readTable_26 ?_
      refine lv_iload_n hE.1 hE.2.1 dX11_readTable_29 rfl (lv_at hl 1 rfl) ?_
      refine rm_iald hE hH hG (k := 8) (by decide) rfl (N := 6) rfl (n := T) (by omega) (v := nI ins.length) (hI.1) dX11_readTable_30 ?_
      refine rn_if_eq (tgt := 43) hE dX11_readTable_31 (by decide) (by omega) (fun c31 => ?_) (fun c31 => ?_)
      · rw [if_neg (fun h => h.1 c31)] at hri
        refine lv_aload_n hE.1 hE.2.1 dX11_readTable_43 rfl (lv_at hl 0 rfl) ?_
        refine rs_ldc (i := 20) hE (by decide) rfl rfl dX11_readTable_44 ?_
        refine rg_VI (As := [.ref (z.1 20)]) (rest := []) hE hml hH mc_X11_149 (c_is l z G hG iv1 jv B n 0 t3 hM 20 (by decide)) hG.1.1 hG.1.2 (by decide) rfl ⟨Nat.le_of_ble_eq_true rfl, Nat.le_of_ble_eq_true rfl⟩ rfl hl.1 (by simp [Value.category]) dX11_readTable_46 ⟨Nat.le_of_ble_eq_true rfl, Nat.le_of_ble_eq_true rfl⟩ (fun r46 G46 iv46 jv46 H locs hp46 hH => ?_)
        obtain ⟨rfl, rfl, rfl, rfl⟩ := hp46
        refine rn_ifb_ne (tgt := 60) hE dX11_readTable_49 (by decide) (fun c49 => ?_) (fun c49 => ?_)
        · rw [kw0] at c49
          rw [if_neg (by simp [c49])] at hri
          refine lv_aload_n hE.1 hE.2.1 dX11_readTable_60 rfl (lv_at hl 0 rfl) ?_
          refine rm_getr hE hH hG fl_X11_20 rfl (by decide) dX11_readTable_61 ?_
          refine lv_iload_n hE.1 hE.2.1 dX11_readTable_64 rfl (lv_at hl 1 rfl) ?_
          refine rm_iald hE hH hG (k := 8) (by decide) rfl (N := 6) rfl (n := T) (by omega) (v := nI ins.length) (hI.1) dX11_readTable_65 ?_
          refine lv_iconst (v := nI 5) hE.1 hE.2.1 dX11_readTable_66 (by decide) ?_
          refine rn_icmp_ne (tgt := 75) hE dX11_readTable_67 (by decide) (by omega) (by omega) (fun c67 => ?_) (fun c67 => ?_)
          · rw [if_neg c67] at hri
            refine lv_aload_n hE.1 hE.2.1 dX11_readTable_75 rfl (lv_at hl 0 rfl) ?_
            refine rm_geti hE hH hG fl_X11_131 rfl (v := nI 0) (hM.2.2.2.1) dX11_readTable_76 ?_
            refine rn_if_eq (tgt := 83) hE dX11_readTable_79 (by decide) (by omega) (fun c79 => ?_) (fun c79 => ?_)
            · refine lv_aload_n hE.1 hE.2.1 dX11_readTable_83 rfl (lv_at hl 0 rfl) ?_
              refine lv_iload_n hE.1 hE.2.1 dX11_readTable_84 rfl (lv_at hl 1 rfl) ?_
              refine rg_VI (As := [.int (nI T)]) (rest := []) hE hml hH mc_X11_205 (c_casesOf l z G hG iv1 jv T ins.length hT h5 (fun i => (szs ins).getD i 0) hI.1 (fun i hi => by rw [szs_get]; exact (hI.2.2.1 i hi).2.1)) hG.1.1 hG.1.2 (by decide) rfl ⟨Nat.le_of_ble_eq_true rfl, Nat.le_of_ble_eq_true rfl⟩ rfl hl.1 (by simp [Value.category]) dX11_readTable_85 ⟨Nat.le_of_ble_eq_true rfl, Nat.le_of_ble_eq_true rfl⟩ (fun r85 G85 iv85 jv85 H locs hp85 hH => ?_)
              obtain ⟨rfl, rfl, rfl, rfl⟩ := hp85
              have hcs : prd (fun i => (szs ins).getD i 0) ins.length = csz (szs ins) := by unfold csz; rw [szs_len]
              rw [hcs]
              refine lv_istore_n (lv' := [(2, .int (nI (csz (szs ins)))), (0, .ref (G.ad 0)), (1, .int (nI T))]) hE.1 hE.2.1 dX11_readTable_88 rfl hl (by decide) rfl (fun ls hl => ?_)
              refine lv_aload_n hE.1 hE.2.1 dX11_readTable_89 rfl (lv_at hl 1 rfl) ?_
              refine lv_iload_n hE.1 hE.2.1 dX11_readTable_90 rfl (lv_at hl 2 rfl) ?_
              refine lv_aload_n hE.1 hE.2.1 dX11_readTable_91 rfl (lv_at hl 1 rfl) ?_
              refine rm_getr hE hH hG fl_X11_20 rfl (by decide) dX11_readTable_92 ?_
              refine lv_iload_n hE.1 hE.2.1 dX11_readTable_95 rfl (lv_at hl 2 rfl) ?_
              refine rm_iald hE hH hG (k := 8) (by decide) rfl (N := 6) rfl (n := T) (by omega) (v := nI ins.length) (hI.1) dX11_readTable_96 ?_
              refine lv_iload_n hE.1 hE.2.1 dX11_readTable_97 rfl (lv_at hl 0 rfl) ?_
              refine rg_VV (As := [.int (nI T), .int (nI ins.length), .int (nI (csz (szs ins)))]) (rest := []) hE hml hH mc_X11_208 (c_readInput l z G hG iv1 jv B n t3 hM T ins.length (csz (szs ins)) hT (by omega) (ins.map (fun c => c.1)) (by simp) (by rw [List.length_map]; exact hI.1) (fun o ho => by rw [List.length_map] at ho; have := (hI.2.2.1 o ho).1; rwa [show (ins.map (fun c => c.1)).getD o [] = (ins.getD o dC0).1 by simp [List.getD_eq_getElem?_getD, ho]]) hI.2.2.2 (fun h => absurd h (by omega))) hG.1.1 hG.1.2 (by decide) rfl ⟨Nat.le_of_ble_eq_true rfl, Nat.le_of_ble_eq_true rfl⟩ rfl hl.1 (by simp [Value.category]) dX11_readTable_98 ⟨Nat.le_of_ble_eq_true rfl, Nat.le_of_ble_eq_true rfl⟩ (fun G98 iv98 jv98 H locs hp98 hH => ?_)
              obtain ⟨rfl, rfl, ⟨hM, hok98⟩, hF98⟩ := hp98
              have h9 : iv98 9 T = nI 0 := (hF98 9 T (by simp)).trans h9
              have hFr := hFr.tr (hF98.mono (pC_pT (by omega)))
              generalize hrdC : rdCol B n (ins.map (fun c => c.1)) (csz (szs ins)) t3 = rdC at hM hok98 hri
              obtain ⟨-, -, -, -, -, hb98⟩ := hM.b
              refine lv_aload_n hE.1 hE.2.1 dX11_readTable_101 rfl (lv_at hl 1 rfl) ?_
              refine rm_geti hE hH hG fl_X11_131 rfl (v := nI rdC.1) (hM.2.2.2.1) dX11_readTable_102 ?_
              refine rn_if_ne (tgt := 118) hE dX11_readTable_105 (by decide) (by omega) (fun c105 => ?_) (fun c105 => ?_)
              · refine lv_goto (tgt := 18) hE.1 hE.2.1 dX11_readTable_118 (by decide) ?_
                exact ih18 (iv98, _, ins, _) _ _ _ (show (if _ then _ else _) < (if _ then _ else _) by rw [if_neg c105, if_pos rfl]; omega) ⟨hM, hFr, h9, fun h => absurd h c105, fun _ => by rw [← hri, if_pos c105]⟩ (lv_sub hl [1, 2] rfl) hH
              · rw [if_neg (by simp [c105])] at hri
                have hrok := rdCol_ok (B := B) (n := n) (nms := ins.map (fun c => c.1)) (ahead := csz (szs ins)) (t := t3) (by rw [hrdC]; exact c105)
                rw [hrdC] at hrok
                obtain ⟨hS98, hV98⟩ := hok98 c105
                have hI2 := INS_add (c := (rdC.2.1, rdC.2.2.1)) hI (by omega) hF98 hS98 hV98 hrok.2.2
                have h8 : iv98 8 T = nI ins.length := (hF98 8 T (by simp)).trans hI.1
                rw [c105] at hM
                refine lv_aload_n hE.1 hE.2.1 dX11_readTable_108 rfl (lv_at hl 1 rfl) ?_
                refine rm_getr hE hH hG fl_X11_20 rfl (by decide) dX11_readTable_109 ?_
                refine lv_iload_n hE.1 hE.2.1 dX11_readTable_112 rfl (lv_at hl 2 rfl) ?_
                refine lv_dup2_11 hE.1 hE.2.1 dX11_readTable_113 rfl rfl ?_
                refine rm_iald hE hH hG (k := 8) (by decide) rfl (N := 6) rfl (n := T) (by omega) (v := nI ins.length) (h8) dX11_readTable_114 ?_
                refine lv_iconst (v := nI 1) hE.1 hE.2.1 dX11_readTable_115 (by decide) ?_
                refine rn_iadd hE dX11_readTable_116 ?_
                refine rm_iast hE hH hG (k := 8) (by decide) rfl (N := 6) rfl (n := T) (by omega) (v := nI (ins.length + 1)) dX11_readTable_117 (fun H locs hH => ?_)
                have hM := hM.up 8 T (nI (ins.length + 1)) (by decide) (by decide)
                have h9 : (up2 iv98 8 T (nI (ins.length + 1))) 9 T = nI 0 := h9
                have hFr : Fr iv (up2 iv98 8 T (nI (ins.length + 1))) (pT T) := Fr.up hFr (Or.inr (Or.inl ⟨rfl, rfl⟩))
                refine lv_goto (tgt := 18) hE.1 hE.2.1 dX11_readTable_118 (by decide) ?_
                exact ih18 (up2 iv98 8 T (nI (ins.length + 1)), 0, ins ++ [(rdC.2.1, rdC.2.2.1)], rdC.2.2.2) _ _ _ (show (if _ then _ else _) < (if _ then _ else _) by rw [if_pos rfl, if_pos rfl]; simp; omega) ⟨hM, hFr, h9, fun _ => ⟨hI2, hri⟩, fun h => absurd rfl h⟩ (lv_sub hl [1, 2] rfl) hH
            · omega
          · rw [if_pos c67] at hri
            refine lv_aload_n hE.1 hE.2.1 dX11_readTable_70 rfl (lv_at hl 0 rfl) ?_
            refine lv_iconst (v := nI 2) hE.1 hE.2.1 dX11_readTable_71 (by decide) ?_
            refine rg_VV (As := [.int (nI 2)]) (rest := []) hE hml hH mc_X11_168 (c_wrong l z G hG iv1 jv B n 0 t3 hM 2 (by decide)) hG.1.1 hG.1.2 (by decide) rfl ⟨Nat.le_of_ble_eq_true rfl, Nat.le_of_ble_eq_true rfl⟩ rfl hl.1 (by simp [Value.category]) dX11_readTable_72 ⟨Nat.le_of_ble_eq_true rfl, Nat.le_of_ble_eq_true rfl⟩ (fun G72 iv72 jv72 H locs hp72 hH => ?_)
            obtain ⟨rfl, rfl, hM, hF72⟩ := hp72
            rw [if_pos rfl] at hM
            have hFr := hFr.tr (hF72.mono (fun _ _ h => Or.inl h))
            refine lv_aload_n hE.1 hE.2.1 dX11_readTable_75 rfl (lv_at hl 0 rfl) ?_
            refine rm_geti hE hH hG fl_X11_131 rfl (v := nI 2) (hM.2.2.2.1) dX11_readTable_76 ?_
            refine rn_if_eq (tgt := 83) hE dX11_readTable_79 (by decide) (by omega) (fun c79 => ?_) (fun c79 => ?_)
            · omega
            · exact rg_vret hE hr hlk hH ⟨rfl, rfl, by
                have e : rdTable B n = (2, (ins, [], []), t3) := by simp only [rdTable]; rw [← hri, if_pos (by simp)]
                rw [e]; exact ⟨hM, fun h => absurd h (by simp)⟩, hFr⟩ dX11_readTable_82
        · rw [kw0] at c49
          rw [if_pos c49] at hri
          refine lv_aload_n hE.1 hE.2.1 dX11_readTable_52 rfl (lv_at hl 0 rfl) ?_
          refine lv_iconst (v := nI 1) hE.1 hE.2.1 dX11_readTable_53 (by decide) ?_
          refine rg_VV (As := [.int (nI 1)]) (rest := []) hE hml hH mc_X11_168 (c_wrong l z G hG iv1 jv B n 0 t3 hM 1 (by decide)) hG.1.1 hG.1.2 (by decide) rfl ⟨Nat.le_of_ble_eq_true rfl, Nat.le_of_ble_eq_true rfl⟩ rfl hl.1 (by simp [Value.category]) dX11_readTable_54 ⟨Nat.le_of_ble_eq_true rfl, Nat.le_of_ble_eq_true rfl⟩ (fun G54 iv54 jv54 H locs hp54 hH => ?_)
          obtain ⟨rfl, rfl, hM, hF54⟩ := hp54
          rw [if_pos rfl] at hM
          have hFr := hFr.tr (hF54.mono (fun _ _ h => Or.inl h))
          refine lv_goto (tgt := 75) hE.1 hE.2.1 dX11_readTable_57 (by decide) ?_
          refine lv_aload_n hE.1 hE.2.1 dX11_readTable_75 rfl (lv_at hl 0 rfl) ?_
          refine rm_geti hE hH hG fl_X11_131 rfl (v := nI 1) (hM.2.2.2.1) dX11_readTable_76 ?_
          refine rn_if_eq (tgt := 83) hE dX11_readTable_79 (by decide) (by omega) (fun c79 => ?_) (fun c79 => ?_)
          · omega
          · exact rg_vret hE hr hlk hH ⟨rfl, rfl, by
              have e : rdTable B n = (1, (ins, [], []), t3) := by simp only [rdTable]; rw [← hri, if_pos (by simp)]
              rw [e]; exact ⟨hM, fun h => absurd h (by simp)⟩, hFr⟩ dX11_readTable_82
      · refine lv_aload_n hE.1 hE.2.1 dX11_readTable_34 rfl (lv_at hl 0 rfl) ?_
        refine rs_ldc (i := 19) hE (by decide) rfl rfl dX11_readTable_35 ?_
        refine rg_VI (As := [.ref (z.1 19)]) (rest := []) hE hml hH mc_X11_149 (c_is l z G hG iv1 jv B n 0 t3 hM 19 (by decide)) hG.1.1 hG.1.2 (by decide) rfl ⟨Nat.le_of_ble_eq_true rfl, Nat.le_of_ble_eq_true rfl⟩ rfl hl.1 (by simp [Value.category]) dX11_readTable_37 ⟨Nat.le_of_ble_eq_true rfl, Nat.le_of_ble_eq_true rfl⟩ (fun r37 G37 iv37 jv37 H locs hp37 hH => ?_)
        obtain ⟨rfl, rfl, rfl, rfl⟩ := hp37
        refine rn_ifb_ne (tgt := 121) hE dX11_readTable_40 (by decide) (fun c40 => ?_) (fun c40 => ?_)
        · rw [kw0] at c40
          rw [if_pos ⟨c31, c40⟩] at hri
          refine lv_aload_n hE.1 hE.2.1 dX11_readTable_121 rfl (lv_at hl 0 rfl) ?_
          refine rm_geti hE hH hG fl_X11_131 rfl (v := nI 0) (hM.2.2.2.1) dX11_readTable_122 ?_
          refine rn_if_ne (tgt := 135) hE dX11_readTable_125 (by decide) (by omega) (fun c125 => ?_) (fun c125 => ?_)
          · omega
          · refine lv_aload_n hE.1 hE.2.1 dX11_readTable_128 rfl (lv_at hl 0 rfl) ?_
            refine lv_iload_n hE.1 hE.2.1 dX11_readTable_129 rfl (lv_at hl 1 rfl) ?_
            refine lv_iconst (v := nI 5) hE.1 hE.2.1 dX11_readTable_130 (by decide) ?_
            refine lv_iconst (v := nI 0) hE.1 hE.2.1 dX11_readTable_131 (by decide) ?_
            refine rg_VV (As := [.int (nI T), .int (nI 5), .int (nI 0)]) (rest := []) hE hml hH mc_X11_208 (c_readInput l z G hG iv1 jv B n t3 hM T 5 0 hT (by decide) (ins.map (fun c => c.1)) (by simp; omega) (by rw [List.length_map]; exact hI.1) (fun o ho => by rw [List.length_map] at ho; have := (hI.2.2.1 o ho).1; rwa [show (ins.map (fun c => c.1)).getD o [] = (ins.getD o dC0).1 by simp [List.getD_eq_getElem?_getD, ho]]) (by decide) (fun _ => rfl)) hG.1.1 hG.1.2 (by decide) rfl ⟨Nat.le_of_ble_eq_true rfl, Nat.le_of_ble_eq_true rfl⟩ rfl hl.1 (by simp [Value.category]) dX11_readTable_132 ⟨Nat.le_of_ble_eq_true rfl, Nat.le_of_ble_eq_true rfl⟩ (fun G132 iv132 jv132 H locs hp132 hH => ?_)
            obtain ⟨rfl, rfl, ⟨hM, hok132⟩, hF132⟩ := hp132
            have h9 : iv132 9 T = nI 0 := (hF132 9 T (by simp)).trans h9
            have hFr := hFr.tr (hF132.mono (pC_pT (by omega)))
            have hI := hI.fr hF132 (by simp) (fun j h1 h2 => by simp only [pC]; omega) (fun j h1 h2 => by simp only [pC]; omega) (fun j h1 h2 => by simp only [pC]; omega)
            have hRT : rdTable B n = if (rdCol B n (ins.map (fun c => c.1)) 0 t3).1 ≠ 0 then ((rdCol B n (ins.map (fun c => c.1)) 0 t3).1, (ins, [], []), (rdCol B n (ins.map (fun c => c.1)) 0 t3).2.2.2) else ((rdRows B n ins (rdCol B n (ins.map (fun c => c.1)) 0 t3).2.2.1 41 [] (rdCol B n (ins.map (fun c => c.1)) 0 t3).2.2.2).1, (ins, (rdCol B n (ins.map (fun c => c.1)) 0 t3).2.2.1, (rdRows B n ins (rdCol B n (ins.map (fun c => c.1)) 0 t3).2.2.1 41 [] (rdCol B n (ins.map (fun c => c.1)) 0 t3).2.2.2).2.1), (rdRows B n ins (rdCol B n (ins.map (fun c => c.1)) 0 t3).2.2.1 41 [] (rdCol B n (ins.map (fun c => c.1)) 0 t3).2.2.2).2.2) := by
              simp only [rdTable]; rw [← hri]; simp only [ne_eq, not_true_eq_false, if_false]
            generalize hrdC : rdCol B n (ins.map (fun c => c.1)) 0 t3 = rdC at hM hok132 hRT
            obtain ⟨-, -, -, -, -, hb132⟩ := hM.b
            exact J135 (iv132, rdC.1, ins, rdC.2.2.1, [], rdC.2.2.2) _ _ _ ⟨hM, hFr, fun h => ⟨hI, c31, (hok132 h).2, ⟨h9, by simp, fun r hr => absurd hr (Nat.not_lt_zero r)⟩, by rw [hRT, if_neg (by simp [h])]; rfl⟩, fun h => by rw [hRT, if_pos h]; exact ⟨rfl, rfl⟩⟩ (lv_sub hl [0, 1] rfl) hH
        · rw [kw0] at c40
          rw [if_neg (fun h => by rw [c40] at h; simp at h)] at hri
          refine lv_aload_n hE.1 hE.2.1 dX11_readTable_43 rfl (lv_at hl 0 rfl) ?_
          refine rs_ldc (i := 20) hE (by decide) rfl rfl dX11_readTable_44 ?_
          refine rg_VI (As := [.ref (z.1 20)]) (rest := []) hE hml hH mc_X11_149 (c_is l z G hG iv1 jv B n 0 t3 hM 20 (by decide)) hG.1.1 hG.1.2 (by decide) rfl ⟨Nat.le_of_ble_eq_true rfl, Nat.le_of_ble_eq_true rfl⟩ rfl hl.1 (by simp [Value.category]) dX11_readTable_46 ⟨Nat.le_of_ble_eq_true rfl, Nat.le_of_ble_eq_true rfl⟩ (fun r46 G46 iv46 jv46 H locs hp46 hH => ?_)
          obtain ⟨rfl, rfl, rfl, rfl⟩ := hp46
          refine rn_ifb_ne (tgt := 60) hE dX11_readTable_49 (by decide) (fun c49 => ?_) (fun c49 => ?_)
          · rw [kw0] at c49
            rw [if_neg (by simp [c49])] at hri
            refine lv_aload_n hE.1 hE.2.1 dX11_readTable_60 rfl (lv_at hl 0 rfl) ?_
            refine rm_getr hE hH hG fl_X11_20 rfl (by decide) dX11_readTable_61 ?_
            refine lv_iload_n hE.1 hE.2.1 dX11_readTable_64 rfl (lv_at hl 1 rfl) ?_
            refine rm_iald hE hH hG (k := 8) (by decide) rfl (N := 6) rfl (n := T) (by omega) (v := nI ins.length) (hI.1) dX11_readTable_65 ?_
            refine lv_iconst (v := nI 5) hE.1 hE.2.1 dX11_readTable_66 (by decide) ?_
            refine rn_icmp_ne (tgt := 75) hE dX11_readTable_67 (by decide) (by omega) (by omega) (fun c67 => ?_) (fun c67 => ?_)
            · rw [if_neg c67] at hri
              refine lv_aload_n hE.1 hE.2.1 dX11_readTable_75 rfl (lv_at hl 0 rfl) ?_
              refine rm_geti hE hH hG fl_X11_131 rfl (v := nI 0) (hM.2.2.2.1) dX11_readTable_76 ?_
              refine rn_if_eq (tgt := 83) hE dX11_readTable_79 (by decide) (by omega) (fun c79 => ?_) (fun c79 => ?_)
              · refine lv_aload_n hE.1 hE.2.1 dX11_readTable_83 rfl (lv_at hl 0 rfl) ?_
                refine lv_iload_n hE.1 hE.2.1 dX11_readTable_84 rfl (lv_at hl 1 rfl) ?_
                refine rg_VI (As := [.int (nI T)]) (rest := []) hE hml hH mc_X11_205 (c_casesOf l z G hG iv1 jv T ins.length hT h5 (fun i => (szs ins).getD i 0) hI.1 (fun i hi => by rw [szs_get]; exact (hI.2.2.1 i hi).2.1)) hG.1.1 hG.1.2 (by decide) rfl ⟨Nat.le_of_ble_eq_true rfl, Nat.le_of_ble_eq_true rfl⟩ rfl hl.1 (by simp [Value.category]) dX11_readTable_85 ⟨Nat.le_of_ble_eq_true rfl, Nat.le_of_ble_eq_true rfl⟩ (fun r85 G85 iv85 jv85 H locs hp85 hH => ?_)
                obtain ⟨rfl, rfl, rfl, rfl⟩ := hp85
                have hcs : prd (fun i => (szs ins).getD i 0) ins.length = csz (szs ins) := by unfold csz; rw [szs_len]
                rw [hcs]
                refine lv_istore_n (lv' := [(2, .int (nI (csz (szs ins)))), (0, .ref (G.ad 0)), (1, .int (nI T))]) hE.1 hE.2.1 dX11_readTable_88 rfl hl (by decide) rfl (fun ls hl => ?_)
                refine lv_aload_n hE.1 hE.2.1 dX11_readTable_89 rfl (lv_at hl 1 rfl) ?_
                refine lv_iload_n hE.1 hE.2.1 dX11_readTable_90 rfl (lv_at hl 2 rfl) ?_
                refine lv_aload_n hE.1 hE.2.1 dX11_readTable_91 rfl (lv_at hl 1 rfl) ?_
                refine rm_getr hE hH hG fl_X11_20 rfl (by decide) dX11_readTable_92 ?_
                refine lv_iload_n hE.1 hE.2.1 dX11_readTable_95 rfl (lv_at hl 2 rfl) ?_
                refine rm_iald hE hH hG (k := 8) (by decide) rfl (N := 6) rfl (n := T) (by omega) (v := nI ins.length) (hI.1) dX11_readTable_96 ?_
                refine lv_iload_n hE.1 hE.2.1 dX11_readTable_97 rfl (lv_at hl 0 rfl) ?_
                refine rg_VV (As := [.int (nI T), .int (nI ins.length), .int (nI (csz (szs ins)))]) (rest := []) hE hml hH mc_X11_208 (c_readInput l z G hG iv1 jv B n t3 hM T ins.length (csz (szs ins)) hT (by omega) (ins.map (fun c => c.1)) (by simp) (by rw [List.length_map]; exact hI.1) (fun o ho => by rw [List.length_map] at ho; have := (hI.2.2.1 o ho).1; rwa [show (ins.map (fun c => c.1)).getD o [] = (ins.getD o dC0).1 by simp [List.getD_eq_getElem?_getD, ho]]) hI.2.2.2 (fun h => absurd h (by omega))) hG.1.1 hG.1.2 (by decide) rfl ⟨Nat.le_of_ble_eq_true rfl, Nat.le_of_ble_eq_true rfl⟩ rfl hl.1 (by simp [Value.category]) dX11_readTable_98 ⟨Nat.le_of_ble_eq_true rfl, Nat.le_of_ble_eq_true rfl⟩ (fun G98 iv98 jv98 H locs hp98 hH => ?_)
                obtain ⟨rfl, rfl, ⟨hM, hok98⟩, hF98⟩ := hp98
                have h9 : iv98 9 T = nI 0 := (hF98 9 T (by simp)).trans h9
                have hFr := hFr.tr (hF98.mono (pC_pT (by omega)))
                generalize hrdC : rdCol B n (ins.map (fun c => c.1)) (csz (szs ins)) t3 = rdC at hM hok98 hri
                obtain ⟨-, -, -, -, -, hb98⟩ := hM.b
                refine lv_aload_n hE.1 hE.2.1 dX11_readTable_101 rfl (lv_at hl 1 rfl) ?_
                refine rm_geti hE hH hG fl_X11_131 rfl (v := nI rdC.1) (hM.2.2.2.1) dX11_readTable_102 ?_
                refine rn_if_ne (tgt := 118) hE dX11_readTable_105 (by decide) (by omega) (fun c105 => ?_) (fun c105 => ?_)
                · refine lv_goto (tgt := 18) hE.1 hE.2.1 dX11_readTable_118 (by decide) ?_
                  exact ih18 (iv98, _, ins, _) _ _ _ (show (if _ then _ else _) < (if _ then _ else _) by rw [if_neg c105, if_pos rfl]; omega) ⟨hM, hFr, h9, fun h => absurd h c105, fun _ => by rw [← hri, if_pos c105]⟩ (lv_sub hl [1, 2] rfl) hH
                · rw [if_neg (by simp [c105])] at hri
                  have hrok := rdCol_ok (B := B) (n := n) (nms := ins.map (fun c => c.1)) (ahead := csz (szs ins)) (t := t3) (by rw [hrdC]; exact c105)
                  rw [hrdC] at hrok
                  obtain ⟨hS98, hV98⟩ := hok98 c105
                  have hI2 := INS_add (c := (rdC.2.1, rdC.2.2.1)) hI (by omega) hF98 hS98 hV98 hrok.2.2
                  have h8 : iv98 8 T = nI ins.length := (hF98 8 T (by simp)).trans hI.1
                  rw [c105] at hM
                  refine lv_aload_n hE.1 hE.2.1 dX11_readTable_108 rfl (lv_at hl 1 rfl) ?_
                  refine rm_getr hE hH hG fl_X11_20 rfl (by decide) dX11_readTable_109 ?_
                  refine lv_iload_n hE.1 hE.2.1 dX11_readTable_112 rfl (lv_at hl 2 rfl) ?_
                  refine lv_dup2_11 hE.1 hE.2.1 dX11_readTable_113 rfl rfl ?_
                  refine rm_iald hE hH hG (k := 8) (by decide) rfl (N := 6) rfl (n := T) (by omega) (v := nI ins.length) (h8) dX11_readTable_114 ?_
                  refine lv_iconst (v := nI 1) hE.1 hE.2.1 dX11_readTable_115 (by decide) ?_
                  refine rn_iadd hE dX11_readTable_116 ?_
                  refine rm_iast hE hH hG (k := 8) (by decide) rfl (N := 6) rfl (n := T) (by omega) (v := nI (ins.length + 1)) dX11_readTable_117 (fun H locs hH => ?_)
                  have hM := hM.up 8 T (nI (ins.length + 1)) (by decide) (by decide)
                  have h9 : (up2 iv98 8 T (nI (ins.length + 1))) 9 T = nI 0 := h9
                  have hFr : Fr iv (up2 iv98 8 T (nI (ins.length + 1))) (pT T) := Fr.up hFr (Or.inr (Or.inl ⟨rfl, rfl⟩))
                  refine lv_goto (tgt := 18) hE.1 hE.2.1 dX11_readTable_118 (by decide) ?_
                  exact ih18 (up2 iv98 8 T (nI (ins.length + 1)), 0, ins ++ [(rdC.2.1, rdC.2.2.1)], rdC.2.2.2) _ _ _ (show (if _ then _ else _) < (if _ then _ else _) by rw [if_pos rfl, if_pos rfl]; simp; omega) ⟨hM, hFr, h9, fun _ => ⟨hI2, hri⟩, fun h => absurd rfl h⟩ (lv_sub hl [1, 2] rfl) hH
              · omega
            · rw [if_pos c67] at hri
              refine lv_aload_n hE.1 hE.2.1 dX11_readTable_70 rfl (lv_at hl 0 rfl) ?_
              refine lv_iconst (v := nI 2) hE.1 hE.2.1 dX11_readTable_71 (by decide) ?_
              refine rg_VV (As := [.int (nI 2)]) (rest := []) hE hml hH mc_X11_168 (c_wrong l z G hG iv1 jv B n 0 t3 hM 2 (by decide)) hG.1.1 hG.1.2 (by decide) rfl ⟨Nat.le_of_ble_eq_true rfl, Nat.le_of_ble_eq_true rfl⟩ rfl hl.1 (by simp [Value.category]) dX11_readTable_72 ⟨Nat.le_of_ble_eq_true rfl, Nat.le_of_ble_eq_true rfl⟩ (fun G72 iv72 jv72 H locs hp72 hH => ?_)
              obtain ⟨rfl, rfl, hM, hF72⟩ := hp72
              rw [if_pos rfl] at hM
              have hFr := hFr.tr (hF72.mono (fun _ _ h => Or.inl h))
              refine lv_aload_n hE.1 hE.2.1 dX11_readTable_75 rfl (lv_at hl 0 rfl) ?_
              refine rm_geti hE hH hG fl_X11_131 rfl (v := nI 2) (hM.2.2.2.1) dX11_readTable_76 ?_
              refine rn_if_eq (tgt := 83) hE dX11_readTable_79 (by decide) (by omega) (fun c79 => ?_) (fun c79 => ?_)
              · omega
              · exact rg_vret hE hr hlk hH ⟨rfl, rfl, by
                  have e : rdTable B n = (2, (ins, [], []), t3) := by simp only [rdTable]; rw [← hri, if_pos (by simp)]
                  rw [e]; exact ⟨hM, fun h => absurd h (by simp)⟩, hFr⟩ dX11_readTable_82
          · rw [kw0] at c49
            rw [if_pos c49] at hri
            refine lv_aload_n hE.1 hE.2.1 dX11_readTable_52 rfl (lv_at hl 0 rfl) ?_
            refine lv_iconst (v := nI 1) hE.1 hE.2.1 dX11_readTable_53 (by decide) ?_
            refine rg_VV (As := [.int (nI 1)]) (rest := []) hE hml hH mc_X11_168 (c_wrong l z G hG iv1 jv B n 0 t3 hM 1 (by decide)) hG.1.1 hG.1.2 (by decide) rfl ⟨Nat.le_of_ble_eq_true rfl, Nat.le_of_ble_eq_true rfl⟩ rfl hl.1 (by simp [Value.category]) dX11_readTable_54 ⟨Nat.le_of_ble_eq_true rfl, Nat.le_of_ble_eq_true rfl⟩ (fun G54 iv54 jv54 H locs hp54 hH => ?_)
            obtain ⟨rfl, rfl, hM, hF54⟩ := hp54
            rw [if_pos rfl] at hM
            have hFr := hFr.tr (hF54.mono (fun _ _ h => Or.inl h))
            refine lv_goto (tgt := 75) hE.1 hE.2.1 dX11_readTable_57 (by decide) ?_
            refine lv_aload_n hE.1 hE.2.1 dX11_readTable_75 rfl (lv_at hl 0 rfl) ?_
            refine rm_geti hE hH hG fl_X11_131 rfl (v := nI 1) (hM.2.2.2.1) dX11_readTable_76 ?_
            refine rn_if_eq (tgt := 83) hE dX11_readTable_79 (by decide) (by omega) (fun c79 => ?_) (fun c79 => ?_)
            · omega
            · exact rg_vret hE hr hlk hH ⟨rfl, rfl, by
                have e : rdTable B n = (1, (ins, [], []), t3) := by simp only [rdTable]; rw [← hri, if_pos (by simp)]
                rw [e]; exact ⟨hM, fun h => absurd h (by simp)⟩, hFr⟩ dX11_readTable_82
