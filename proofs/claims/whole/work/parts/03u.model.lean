set_option maxRecDepth 100000 in
set_option maxHeartbeats 4000000 in
theorem c_readProgram (l : Launch) (z : ZK) (G : GW) (hG : isM G) (iv : IV) (jv : JV) (B : Nat → Nat) (n : Nat) (hX : TX iv B n) (h29 : iv 0 29 = nI 0) (h35 : iv 0 35 = nI 0) (T P : Nat) (hT6 : T < 6) (hP : P < 12) (tab : Tab) (hB : TABL iv T tab) (hW : tabW tab) : cV l z yX11_readProgram cX11_readProgram 5 none 10 220 0 0 [.ref (G.ad 0), .int (nI P), .int (nI T)] G iv jv (fun G' iv' jv' => G = G' ∧ jv = jv' ∧ (MP iv' B n (rdProg B n tab).1 (rdProg B n tab).2.2 ∧ ((rdProg B n tab).1 = 0 → PRG iv' P (rdProg B n tab).2.1)) ∧ Fr iv iv' (pP P)) := by
  intro sz
  refine rg_entry rfl (Nat.le_of_ble_eq_true rfl) ?_
  intro pq eq sq mq bq methq cq ls hE hr hlk hml hnm hl hsz hH
  have hl : lv_has ls 5 [(0, .ref (G.ad 0)), (1, .int (nI P)), (2, .int (nI T))] := hl
  have hn := hX.1
  refine lv_aload_n hE.1 hE.2.1 dX11_readProgram_0 rfl (lv_at hl 0 rfl) ?_
  refine lv_iconst (v := nI 0) hE.1 hE.2.1 dX11_readProgram_1 (by decide) ?_
  refine rm_puti hE hH hG fl_X11_224 rfl fn_X11_22 (v := nI 0) dX11_readProgram_2 (fun H locs hH => ?_)
  have hX : TX (up2 iv 0 22 (nI 0)) B n := TX.fr hX (P := fun lb j => lb = 0 ∧ j = 22) (Fr.up Fr.rf ⟨rfl, rfl⟩) (by simp) (fun k => by simp)
  have h29 : (up2 iv 0 22 (nI 0)) 0 29 = nI 0 := h29
  have h35 : (up2 iv 0 22 (nI 0)) 0 35 = nI 0 := h35
  have hFr : Fr iv (up2 iv 0 22 (nI 0)) (pP P) := Fr.up Fr.rf (Or.inr (Or.inl ⟨rfl, rfl⟩))
  refine lv_iconst (v := nI 0) hE.1 hE.2.1 dX11_readProgram_5 (by decide) ?_
  refine lv_istore_n (lv' := [(3, .int (nI 0)), (0, .ref (G.ad 0)), (1, .int (nI P)), (2, .int (nI T))]) hE.1 hE.2.1 dX11_readProgram_6 rfl hl (by decide) rfl (fun ls hl => ?_)
  refine lv_aload_n hE.1 hE.2.1 dX11_readProgram_7 rfl (lv_at hl 1 rfl) ?_
  refine rg_VV (As := []) (rest := []) hE hml hH mc_X11_172 (c_step l z G hG (up2 iv 0 22 (nI 0)) jv B n 0 hX (Nat.zero_le _) h29) hG.1.1 hG.1.2 (by decide) rfl ⟨Nat.le_of_ble_eq_true rfl, Nat.le_of_ble_eq_true rfl⟩ rfl hl.1 (by simp [Value.category]) dX11_readProgram_8 ⟨Nat.le_of_ble_eq_true rfl, Nat.le_of_ble_eq_true rfl⟩ (fun G8 iv8 jv8 H locs hp8 hH => ?_)
  obtain ⟨rfl, rfl, hTR8, hF8⟩ := hp8
  have hM : MP iv8 B n 0 (tokAt B n 0) := ⟨TX.fr hX hF8 (by decide) (fun k => by simp), hTR8, TV_at (Nat.zero_le _), (hF8 0 35 (by decide)).trans h35, by decide, fun h => absurd rfl h⟩
  have h22 : iv8 0 22 = nI 0 := (hF8 0 22 (by decide)).trans rfl
  have hFr : Fr iv iv8 (pP P) := hFr.tr ((pS_pQ hF8).mono (fun _ _ h => Or.inl h))
  refine rg_loop (σ := IV × Nat × List (Nat × Nat) × List (Nat × Nat) × Tok) (nL := 5) (fun (u : IV × Nat × List (Nat × Nat) × List (Nat × Nat) × Tok) => match u with | (iv1, b, fs, ws, t3) => if b = 0 then 42 - ws.length else 0) (fun (u : IV × Nat × List (Nat × Nat) × List (Nat × Nat) × Tok) => match u with | (iv1, b, fs, ws, t3) => [(0, .ref (G.ad 0)), (1, .int (nI P)), (2, .int (nI T)), (3, .int (nI ws.length))]) (fun (u : IV × Nat × List (Nat × Nat) × List (Nat × Nat) × Tok) => match u with | (iv1, b, fs, ws, t3) => G) (fun (u : IV × Nat × List (Nat × Nat) × List (Nat × Nat) × Tok) => match u with | (iv1, b, fs, ws, t3) => iv1) (fun (u : IV × Nat × List (Nat × Nat) × List (Nat × Nat) × Tok) => match u with | (iv1, b, fs, ws, t3) => jv) (fun (u : IV × Nat × List (Nat × Nat) × List (Nat × Nat) × Tok) => match u with | (iv1, b, fs, ws, t3) => MP iv1 B n b t3 ∧ Fr iv iv1 (pP P) ∧ (b = 0 → iv1 0 22 = nI fs.length ∧ TST iv1 P fs ∧ WST iv1 P ws ∧ ws.length ≤ 40 ∧ 6 * fs.length ≤ tb t3 ∧ fsOK tab.1 fs ∧ rdWhens B n tab.1 tab.2.1 (41 - ws.length) fs ws t3 = rdWhens B n tab.1 tab.2.1 41 [] [] (tokAt B n 0)) ∧ (b ≠ 0 → ws.length ≤ 40 ∧ (rdWhens B n tab.1 tab.2.1 41 [] [] (tokAt B n 0)).1 = b ∧ (rdWhens B n tab.1 tab.2.1 41 [] [] (tokAt B n 0)).2.2 = t3)) ?_ ((iv8, 0, [], [], tokAt B n 0)) ⟨hM, hFr, fun _ => ⟨h22, fun q hq => absurd hq (Nat.not_lt_zero q), fun q hq => absurd hq (Nat.not_lt_zero q), Nat.zero_le _, Nat.zero_le _, fun q hq => absurd hq (Nat.not_lt_zero q), rfl⟩, fun h => absurd rfl h⟩ (lv_sub hl [1, 2, 3, 0] rfl) hH
  rintro ⟨iv1, b, fs, ws, t3⟩ H locs ls ⟨hM, hFr, hz, hnz⟩ hl hH ih11
  try dsimp only at hl hH ih11
  try dsimp only at hM hFr hz hnz
  have hb4 := hM.2.2.2.2.1
  have hw40 : ws.length ≤ 40 := by
    by_cases h : b = 0
    · exact (hz h).2.2.2.1
    · exact (hnz h).1
  refine lv_aload_n hE.1 hE.2.1 dX11_readProgram_11 rfl (lv_at hl 0 rfl) ?_
  refine rm_geti hE hH hG fl_X11_131 rfl (v := nI b) (hM.2.2.2.1) dX11_readProgram_12 ?_
  refine rn_if_ne (tgt := 182) hE dX11_readProgram_15 (by decide) (by omega) (fun c15 => ?_) (fun c15 => ?_)
  · have hfin := hnz c15
    refine lv_aload_n hE.1 hE.2.1 dX11_readProgram_182 rfl (lv_at hl 0 rfl) ?_
    refine rm_geti hE hH hG fl_X11_131 rfl (v := nI b) (hM.2.2.2.1) dX11_readProgram_183 ?_
    refine rn_if_eq (tgt := 190) hE dX11_readProgram_186 (by decide) (by omega) (fun c186 => ?_) (fun c186 => ?_)
    · exact absurd c186 c15
    · exact rg_vret hE hr hlk hH ⟨rfl, rfl, by
        have e1 : (rdProg B n tab).1 = b ∧ (rdProg B n tab).2.2 = t3 := by
          simp only [rdProg]
          rw [if_pos (by rw [hfin.2.1]; exact c15)]
          exact hfin.2
        rw [e1.1, e1.2]; exact ⟨hM, fun h => absurd h c15⟩, hFr⟩ dX11_readProgram_189
  · subst c15
    obtain ⟨h22, hT, hW1, h40, h6, hfs, hrw⟩ := hz rfl
    rw [rdWhens_go h40] at hrw
    refine lv_aload_n hE.1 hE.2.1 dX11_readProgram_18 rfl (lv_at hl 0 rfl) ?_
    refine rs_ldc (i := 25) hE (by decide) rfl rfl dX11_readProgram_19 ?_
    refine rg_VI (As := [.ref (z.1 25)]) (rest := []) hE hml hH mc_X11_149 (c_is l z G hG iv1 jv B n 0 t3 hM 25 (by decide)) hG.1.1 hG.1.2 (by decide) rfl ⟨Nat.le_of_ble_eq_true rfl, Nat.le_of_ble_eq_true rfl⟩ rfl hl.1 (by simp [Value.category]) dX11_readProgram_21 ⟨Nat.le_of_ble_eq_true rfl, Nat.le_of_ble_eq_true rfl⟩ (fun r21 G21 iv21 jv21 H locs hp21 hH => ?_)
    obtain ⟨rfl, rfl, rfl, rfl⟩ := hp21
    refine rn_ifb_ne (tgt := 182) hE dX11_readProgram_24 (by decide) (fun c24 => ?_) (fun c24 => ?_)
    · rw [kw0] at c24
      rw [if_pos c24] at hrw
      refine lv_aload_n hE.1 hE.2.1 dX11_readProgram_182 rfl (lv_at hl 0 rfl) ?_
      refine rm_geti hE hH hG fl_X11_131 rfl (v := nI 0) (hM.2.2.2.1) dX11_readProgram_183 ?_
      refine rn_if_eq (tgt := 190) hE dX11_readProgram_186 (by decide) (by omega) (fun c186 => ?_) (fun c186 => ?_)
      · have hRP : rdProg B n tab = (if (nd B n (rdV B n tab.2.1 0 (nx B n t3)).1 (rdV B n tab.2.1 0 (nx B n t3)).2.2 59).1 ≠ 0 then ((nd B n (rdV B n tab.2.1 0 (nx B n t3)).1 (rdV B n tab.2.1 0 (nx B n t3)).2.2 59).1, (fs, ws, 0), (nd B n (rdV B n tab.2.1 0 (nx B n t3)).1 (rdV B n tab.2.1 0 (nx B n t3)).2.2 59).2) else if tk (nd B n (rdV B n tab.2.1 0 (nx B n t3)).1 (rdV B n tab.2.1 0 (nx B n t3)).2.2 59).2 ≠ 0 then (1, (fs, ws, 0), (nd B n (rdV B n tab.2.1 0 (nx B n t3)).1 (rdV B n tab.2.1 0 (nx B n t3)).2.2 59).2) else (0, (fs, ws, (rdV B n tab.2.1 0 (nx B n t3)).2.1), (nd B n (rdV B n tab.2.1 0 (nx B n t3)).1 (rdV B n tab.2.1 0 (nx B n t3)).2.2 59).2)) := by
          simp only [rdProg]; rw [← hrw]; simp only [ne_eq, not_true_eq_false, if_false]
        refine lv_aload_n hE.1 hE.2.1 dX11_readProgram_190 rfl (lv_at hl 0 rfl) ?_
        refine rg_VV (As := []) (rest := []) hE hml hH mc_X11_172 (c_step l z G hG iv1 jv B n (te t3) hM.1 (TV_b hM.2.2.1).2.1 hM.2.1.1) hG.1.1 hG.1.2 (by decide) rfl ⟨Nat.le_of_ble_eq_true rfl, Nat.le_of_ble_eq_true rfl⟩ rfl hl.1 (by simp [Value.category]) dX11_readProgram_191 ⟨Nat.le_of_ble_eq_true rfl, Nat.le_of_ble_eq_true rfl⟩ (fun G191 iv191 jv191 H locs hp191 hH => ?_)
        obtain ⟨rfl, rfl, hTR191, hF191⟩ := hp191
        have hM := MP.step hM hTR191 hF191
        have hFr := hFr.tr ((pS_pQ hF191).mono (fun _ _ h => Or.inl h))
        have h22 : iv191 0 22 = nI fs.length := (hF191 0 22 (by decide)).trans h22
        have hT := hT.fr hF191 (fun lb j h _ _ => by simp only [pS]; omega)
        have hW1 := hW1.fr hF191 (fun lb j h _ _ => by simp only [pS]; omega)
        refine lv_aload_n hE.1 hE.2.1 dX11_readProgram_194 rfl (lv_at hl 0 rfl) ?_
        refine rm_getr hE hH hG fl_X11_53 rfl (by decide) dX11_readProgram_195 ?_
        refine lv_bipush (v := nI 41) hE.1 hE.2.1 dX11_readProgram_198 (by decide) ?_
        refine lv_iload_n hE.1 hE.2.1 dX11_readProgram_200 rfl (lv_at hl 1 rfl) ?_
        refine rn_imul hE dX11_readProgram_201 ?_
        refine lv_iload_n hE.1 hE.2.1 dX11_readProgram_202 rfl (lv_at hl 3 rfl) ?_
        refine rn_iadd hE dX11_readProgram_203 ?_
        refine lv_aload_n hE.1 hE.2.1 dX11_readProgram_204 rfl (lv_at hl 0 rfl) ?_
        refine rm_geti hE hH hG fl_X11_224 rfl (v := nI fs.length) (h22) dX11_readProgram_205 ?_
        refine rm_iast hE hH hG (k := 19) (by decide) rfl (N := 492) rfl (n := 41 * P + ws.length) (by omega) (v := nI fs.length) dX11_readProgram_208 (fun H locs hH => ?_)
        have hU19 : Fr iv191 (up2 iv191 19 (41 * P + ws.length) (nI fs.length)) (fun lb j => lb = 19 ∧ j = 41 * P + ws.length) := Fr.up Fr.rf ⟨rfl, rfl⟩
        have hM := hM.up 19 (41 * P + ws.length) (nI fs.length) (by decide) (by decide)
        have hFr : Fr iv (up2 iv191 19 (41 * P + ws.length) (nI fs.length)) (pP P) := Fr.up hFr (Or.inr (Or.inr (Or.inr (Or.inl ⟨Or.inr rfl, by omega, by omega⟩))))
        have hT := hT.fr hU19 (fun lb j h _ _ => by omega)
        have hW1 := hW1.fr hU19 (fun lb j h _ _ => by omega)
        have h19 : (up2 iv191 19 (41 * P + ws.length) (nI fs.length)) 19 (41 * P + ws.length) = nI fs.length := up2_s
        refine lv_aload_n hE.1 hE.2.1 dX11_readProgram_209 rfl (lv_at hl 0 rfl) ?_
        refine rm_getr hE hH hG fl_X11_50 rfl (by decide) dX11_readProgram_210 ?_
        refine lv_bipush (v := nI 41) hE.1 hE.2.1 dX11_readProgram_213 (by decide) ?_
        refine lv_iload_n hE.1 hE.2.1 dX11_readProgram_215 rfl (lv_at hl 1 rfl) ?_
        refine rn_imul hE dX11_readProgram_216 ?_
        refine lv_iload_n hE.1 hE.2.1 dX11_readProgram_217 rfl (lv_at hl 3 rfl) ?_
        refine rn_iadd hE dX11_readProgram_218 ?_
        refine lv_aload_n hE.1 hE.2.1 dX11_readProgram_219 rfl (lv_at hl 0 rfl) ?_
        refine lv_iload_n hE.1 hE.2.1 dX11_readProgram_220 rfl (lv_at hl 2 rfl) ?_
        refine lv_iconst (v := nI 5) hE.1 hE.2.1 dX11_readProgram_221 (by decide) ?_
        refine rg_VI (As := [.int (nI T), .int (nI 5)]) (rest := [.int (nI (41 * P + ws.length)), .ref (G.ad 18)]) hE hml hH mc_X11_202 (c_readValue l z G hG (up2 iv191 19 (41 * P + ws.length) (nI fs.length)) jv B n 0 (nx B n t3) hM T 5 hT6 (by decide) tab.2.1 (INS.f2 hB hFr (fun lb j h => by simp only [pP] at h; omega)).2.2.1) hG.1.1 hG.1.2 (by decide) rfl ⟨Nat.le_of_ble_eq_true rfl, Nat.le_of_ble_eq_true rfl⟩ rfl hl.1 (by simp [Value.category]) dX11_readProgram_222 ⟨Nat.le_of_ble_eq_true rfl, Nat.le_of_ble_eq_true rfl⟩ (fun r222 G222 iv222 jv222 H locs hp222 hH => ?_)
        obtain ⟨rfl, rfl, ⟨hM, hrv222⟩, hF222⟩ := hp222
        have hFr := hFr.tr (hF222.mono (fun _ _ h => Or.inl h))
        have hT := hT.fr hF222 (fun lb j h _ _ => by simp only [pQ]; omega)
        have hW1 := hW1.fr hF222 (fun lb j h _ _ => by simp only [pQ]; omega)
        have h19 : iv222 19 (41 * P + ws.length) = nI fs.length := (hF222 19 _ (by simp)).trans h19
        refine rm_iast hE hH hG (k := 18) (by decide) rfl (N := 492) rfl (n := 41 * P + ws.length) (by omega) (v := r222) dX11_readProgram_225 (fun H locs hH => ?_)
        have hU18 : Fr iv222 (up2 iv222 18 (41 * P + ws.length) r222) (fun lb j => lb = 18 ∧ j = 41 * P + ws.length) := Fr.up Fr.rf ⟨rfl, rfl⟩
        have hM := hM.up 18 (41 * P + ws.length) r222 (by decide) (by decide)
        have hFr : Fr iv (up2 iv222 18 (41 * P + ws.length) r222) (pP P) := Fr.up hFr (Or.inr (Or.inr (Or.inr (Or.inl ⟨Or.inl rfl, by omega, by omega⟩))))
        have hT := hT.fr hU18 (fun lb j h _ _ => by omega)
        have hW1 := hW1.fr hU18 (fun lb j h _ _ => by omega)
        have h19 : (up2 iv222 18 (41 * P + ws.length) r222) 19 (41 * P + ws.length) = nI fs.length := h19
        have h18 : (up2 iv222 18 (41 * P + ws.length) r222) 18 (41 * P + ws.length) = r222 := up2_s
        refine lv_aload_n hE.1 hE.2.1 dX11_readProgram_226 rfl (lv_at hl 0 rfl) ?_
        refine lv_bipush (v := nI 59) hE.1 hE.2.1 dX11_readProgram_227 (by decide) ?_
        refine rg_VV (As := [.int (nI 59)]) (rest := []) hE hml hH mc_X11_196 (c_need l z G hG (up2 iv222 18 (41 * P + ws.length) r222) jv B n ((rdV B n tab.2.1 0 (nx B n t3)).1) ((rdV B n tab.2.1 0 (nx B n t3)).2.2) hM 59 (by decide)) hG.1.1 hG.1.2 (by decide) rfl ⟨Nat.le_of_ble_eq_true rfl, Nat.le_of_ble_eq_true rfl⟩ rfl hl.1 (by simp [Value.category]) dX11_readProgram_229 ⟨Nat.le_of_ble_eq_true rfl, Nat.le_of_ble_eq_true rfl⟩ (fun G229 iv229 jv229 H locs hp229 hH => ?_)
        obtain ⟨rfl, rfl, hM, hF229⟩ := hp229
        have hFr := hFr.tr (hF229.mono (fun _ _ h => Or.inl h))
        have hT := hT.fr hF229 (fun lb j h _ _ => by simp only [pQ]; omega)
        have hW1 := hW1.fr hF229 (fun lb j h _ _ => by simp only [pQ]; omega)
        have h19 : iv229 19 (41 * P + ws.length) = nI fs.length := (hF229 19 _ (by simp)).trans h19
        have h18 : iv229 18 (41 * P + ws.length) = r222 := (hF229 18 _ (by simp)).trans h18
        obtain ⟨-, -, -, hk229, -, hb229⟩ := hM.b
        refine lv_aload_n hE.1 hE.2.1 dX11_readProgram_232 rfl (lv_at hl 0 rfl) ?_
        refine rm_geti hE hH hG fl_X11_131 rfl (v := nI ((nd B n ((rdV B n tab.2.1 0 (nx B n t3)).1) ((rdV B n tab.2.1 0 (nx B n t3)).2.2) 59).1)) (hM.2.2.2.1) dX11_readProgram_233 ?_
        refine rn_if_ne (tgt := 251) hE dX11_readProgram_236 (by decide) (by omega) (fun c236 => ?_) (fun c236 => ?_)
        · rw [if_pos c236] at hRP
          refine lv_aload_n hE.1 hE.2.1 dX11_readProgram_251 rfl (lv_at hl 0 rfl) ?_
          refine rm_getr hE hH hG fl_X11_47 rfl (by decide) dX11_readProgram_252 ?_
          refine lv_iload_n hE.1 hE.2.1 dX11_readProgram_255 rfl (lv_at hl 1 rfl) ?_
          refine lv_iload_n hE.1 hE.2.1 dX11_readProgram_256 rfl (lv_at hl 3 rfl) ?_
          refine rm_iast hE hH hG (k := 17) (by decide) rfl (N := 12) rfl (n := P) (by omega) (v := nI ws.length) dX11_readProgram_257 (fun H locs hH => ?_)
          exact rg_vret hE hr hlk hH ⟨rfl, rfl, by rw [hRP]; exact ⟨hM.up 17 P _ (by decide) (by decide), fun h => absurd h c236⟩, Fr.up hFr (Or.inr (Or.inr (Or.inl ⟨rfl, rfl⟩)))⟩ dX11_readProgram_258
        · rw [if_neg (by simp [c236])] at hRP
          rw [c236] at hM
          refine lv_aload_n hE.1 hE.2.1 dX11_readProgram_239 rfl (lv_at hl 0 rfl) ?_
          refine rm_geti hE hH hG fl_X11_121 rfl (v := nI (tk ((nd B n (rdV B n tab.2.1 0 (nx B n t3)).1 (rdV B n tab.2.1 0 (nx B n t3)).2.2 59).2))) (hM.2.1.2.1) dX11_readProgram_240 ?_
          refine rn_if_eq (tgt := 251) hE dX11_readProgram_243 (by decide) (by omega) (fun c243 => ?_) (fun c243 => ?_)
          · rw [if_neg (by simp [c243])] at hRP
            refine lv_aload_n hE.1 hE.2.1 dX11_readProgram_251 rfl (lv_at hl 0 rfl) ?_
            refine rm_getr hE hH hG fl_X11_47 rfl (by decide) dX11_readProgram_252 ?_
            refine lv_iload_n hE.1 hE.2.1 dX11_readProgram_255 rfl (lv_at hl 1 rfl) ?_
            refine lv_iload_n hE.1 hE.2.1 dX11_readProgram_256 rfl (lv_at hl 3 rfl) ?_
            refine rm_iast hE hH hG (k := 17) (by decide) rfl (N := 12) rfl (n := P) (by omega) (v := nI ws.length) dX11_readProgram_257 (fun H locs hH => ?_)
            exact rg_vret hE hr hlk hH ⟨rfl, rfl, by rw [hRP]; exact ⟨hM.up 17 P _ (by decide) (by decide), fun _ => ⟨up2_s, hT.fr (Q := fun lb _ => lb = 17) (Fr.up Fr.rf rfl) (fun lb j h _ _ => by omega), hW1.fr (Q := fun lb _ => lb = 17) (Fr.up Fr.rf rfl) (fun lb j h _ _ => by omega), h19, h18.trans (hrv222 (nd_0 c236))⟩⟩, Fr.up hFr (Or.inr (Or.inr (Or.inl ⟨rfl, rfl⟩)))⟩ dX11_readProgram_258
          · rw [if_pos c243] at hRP
            refine lv_aload_n hE.1 hE.2.1 dX11_readProgram_246 rfl (lv_at hl 0 rfl) ?_
            refine lv_iconst (v := nI 1) hE.1 hE.2.1 dX11_readProgram_247 (by decide) ?_
            refine rg_VV (As := [.int (nI 1)]) (rest := []) hE hml hH mc_X11_168 (c_wrong l z G hG iv229 jv B n 0 ((nd B n (rdV B n tab.2.1 0 (nx B n t3)).1 (rdV B n tab.2.1 0 (nx B n t3)).2.2 59).2) hM 1 (by decide)) hG.1.1 hG.1.2 (by decide) rfl ⟨Nat.le_of_ble_eq_true rfl, Nat.le_of_ble_eq_true rfl⟩ rfl hl.1 (by simp [Value.category]) dX11_readProgram_248 ⟨Nat.le_of_ble_eq_true rfl, Nat.le_of_ble_eq_true rfl⟩ (fun G248 iv248 jv248 H locs hp248 hH => ?_)
            obtain ⟨rfl, rfl, hM, hF248⟩ := hp248
            rw [if_pos rfl] at hM
            have hFr := hFr.tr (hF248.mono (fun _ _ h => Or.inl h))
            refine lv_aload_n hE.1 hE.2.1 dX11_readProgram_251 rfl (lv_at hl 0 rfl) ?_
            refine rm_getr hE hH hG fl_X11_47 rfl (by decide) dX11_readProgram_252 ?_
            refine lv_iload_n hE.1 hE.2.1 dX11_readProgram_255 rfl (lv_at hl 1 rfl) ?_
            refine lv_iload_n hE.1 hE.2.1 dX11_readProgram_256 rfl (lv_at hl 3 rfl) ?_
            refine rm_iast hE hH hG (k := 17) (by decide) rfl (N := 12) rfl (n := P) (by omega) (v := nI ws.length) dX11_readProgram_257 (fun H locs hH => ?_)
            exact rg_vret hE hr hlk hH ⟨rfl, rfl, by rw [hRP]; exact ⟨hM.up 17 P _ (by decide) (by decide), fun h => absurd h (by simp)⟩, Fr.up hFr (Or.inr (Or.inr (Or.inl ⟨rfl, rfl⟩)))⟩ dX11_readProgram_258
      · omega
    · rw [kw0] at c24
      rw [if_neg (by simp [c24])] at hrw
      refine lv_aload_n hE.1 hE.2.1 dX11_readProgram_27 rfl (lv_at hl 0 rfl) ?_
      refine rs_ldc (i := 22) hE (by decide) rfl rfl dX11_readProgram_28 ?_
      refine rg_VI (As := [.ref (z.1 22)]) (rest := []) hE hml hH mc_X11_149 (c_is l z G hG iv1 jv B n 0 t3 hM 22 (by decide)) hG.1.1 hG.1.2 (by decide) rfl ⟨Nat.le_of_ble_eq_true rfl, Nat.le_of_ble_eq_true rfl⟩ rfl hl.1 (by simp [Value.category]) dX11_readProgram_30 ⟨Nat.le_of_ble_eq_true rfl, Nat.le_of_ble_eq_true rfl⟩ (fun r30 G30 iv30 jv30 H locs hp30 hH => ?_)
      obtain ⟨rfl, rfl, rfl, rfl⟩ := hp30
      refine rn_ifb_ne (tgt := 44) hE dX11_readProgram_33 (by decide) (fun c33 => ?_) (fun c33 => ?_)
      · rw [kw0] at c33
        rw [if_neg (by simp [c33])] at hrw
        refine lv_iload_n hE.1 hE.2.1 dX11_readProgram_44 rfl (lv_at hl 3 rfl) ?_
        refine lv_bipush (v := nI 40) hE.1 hE.2.1 dX11_readProgram_45 (by decide) ?_
        refine rn_icmp_ne (tgt := 55) hE dX11_readProgram_47 (by decide) (by omega) (by omega) (fun c47 => ?_) (fun c47 => ?_)
        · rw [if_neg c47] at hrw
          refine lv_aload_n hE.1 hE.2.1 dX11_readProgram_55 rfl (lv_at hl 0 rfl) ?_
          refine rm_geti hE hH hG fl_X11_131 rfl (v := nI 0) (hM.2.2.2.1) dX11_readProgram_56 ?_
          refine rn_if_eq (tgt := 63) hE dX11_readProgram_59 (by decide) (by omega) (fun c59 => ?_) (fun c59 => ?_)
          · refine lv_aload_n hE.1 hE.2.1 dX11_readProgram_63 rfl (lv_at hl 0 rfl) ?_
            refine rm_getr hE hH hG fl_X11_53 rfl (by decide) dX11_readProgram_64 ?_
            refine lv_bipush (v := nI 41) hE.1 hE.2.1 dX11_readProgram_67 (by decide) ?_
            refine lv_iload_n hE.1 hE.2.1 dX11_readProgram_69 rfl (lv_at hl 1 rfl) ?_
            refine rn_imul hE dX11_readProgram_70 ?_
            refine lv_iload_n hE.1 hE.2.1 dX11_readProgram_71 rfl (lv_at hl 3 rfl) ?_
            refine rn_iadd hE dX11_readProgram_72 ?_
            refine lv_aload_n hE.1 hE.2.1 dX11_readProgram_73 rfl (lv_at hl 0 rfl) ?_
            refine rm_geti hE hH hG fl_X11_224 rfl (v := nI fs.length) (h22) dX11_readProgram_74 ?_
            refine rm_iast hE hH hG (k := 19) (by decide) rfl (N := 492) rfl (n := 41 * P + ws.length) (by omega) (v := nI fs.length) dX11_readProgram_77 (fun H locs hH => ?_)
            have hU19 : Fr iv1 (up2 iv1 19 (41 * P + ws.length) (nI fs.length)) (fun lb j => lb = 19 ∧ j = 41 * P + ws.length) := Fr.up Fr.rf ⟨rfl, rfl⟩
            have hM := hM.up 19 (41 * P + ws.length) (nI fs.length) (by decide) (by decide)
            have hFo : Fr iv (up2 iv1 19 (41 * P + ws.length) (nI fs.length)) (pP P) := Fr.up hFr (Or.inr (Or.inr (Or.inr (Or.inl ⟨Or.inr rfl, by omega, by omega⟩))))
            have h22 : (up2 iv1 19 (41 * P + ws.length) (nI fs.length)) 0 22 = nI fs.length := h22
            have hT := hT.fr hU19 (fun lb j h _ _ => by omega)
            have hW1 := hW1.fr hU19 (fun lb j h _ _ => by omega)
            have h19 : (up2 iv1 19 (41 * P + ws.length) (nI fs.length)) 19 (41 * P + ws.length) = nI fs.length := up2_s
            have h6te : 6 * fs.length ≤ te t3 := Nat.le_trans h6 (TV_b hM.2.2.1).1
            have hok := fun (h : (rdWhen B n tab.1 tab.2.1 fs t3).1 = 0) => (rdWhen_ok (outs := tab.2.1) hn hW.1 hM.2.2.1 h6te hfs).2 h
            refine lv_iconst (v := nI 1) hE.1 hE.2.1 dX11_readProgram_78 (by decide) ?_
            refine lv_istore (lv' := [(4, .int (nI 1)), (0, .ref (G.ad 0)), (1, .int (nI P)), (2, .int (nI T)), (3, .int (nI ws.length))]) hE.1 hE.2.1 dX11_readProgram_79 hl (by decide) rfl (fun ls hl => ?_)
            refine rg_join (σ := IV) (nL := 5) (pcJ := 114) hH (fun (iv5 : IV) => [(0, .ref (G.ad 0)), (1, .int (nI P)), (2, .int (nI T)), (3, .int (nI ws.length))]) (fun (iv5 : IV) => []) (fun (iv5 : IV) => G) (fun (iv5 : IV) => iv5) (fun (iv5 : IV) => jv) (fun (iv5 : IV) => MP iv5 B n (rdTs B n tab.1 (200 - fs.length) fs t3).1 (rdTs B n tab.1 (200 - fs.length) fs t3).2.2 ∧ Fr (up2 iv1 19 (41 * P + ws.length) (nI fs.length)) iv5 (pX P) ∧ ((rdTs B n tab.1 (200 - fs.length) fs t3).1 = 0 → iv5 0 22 = nI (rdTs B n tab.1 (200 - fs.length) fs t3).2.1.length ∧ TST iv5 P (rdTs B n tab.1 (200 - fs.length) fs t3).2.1)) ?_ (fun J114 => ?_)
            · rintro iv5 H locs ls ⟨hM, hFr, hz3⟩ hl hH
              try dsimp only at hl hH
              try dsimp only at hM hFr hz3
              obtain ⟨-, -, -, -, -, hb5⟩ := hM.b
              refine rg_join (σ := IV) (nL := 5) (pcJ := 146) hH (fun (iv6 : IV) => [(0, .ref (G.ad 0)), (1, .int (nI P)), (2, .int (nI T)), (3, .int (nI ws.length))]) (fun (iv6 : IV) => []) (fun (iv6 : IV) => G) (fun (iv6 : IV) => iv6) (fun (iv6 : IV) => jv) (fun (iv6 : IV) => MP iv6 B n (ndK B n (rdTs B n tab.1 (200 - fs.length) fs t3).1 (rdTs B n tab.1 (200 - fs.length) fs t3).2.2 24).1 (ndK B n (rdTs B n tab.1 (200 - fs.length) fs t3).1 (rdTs B n tab.1 (200 - fs.length) fs t3).2.2 24).2 ∧ Fr (up2 iv1 19 (41 * P + ws.length) (nI fs.length)) iv6 (pX P) ∧ ((rdTs B n tab.1 (200 - fs.length) fs t3).1 = 0 → iv6 0 22 = nI (rdTs B n tab.1 (200 - fs.length) fs t3).2.1.length ∧ TST iv6 P (rdTs B n tab.1 (200 - fs.length) fs t3).2.1)) ?_ (fun J146 => ?_)
              · rintro iv6 H locs ls ⟨hM, hFr, hz3⟩ hl hH
                try dsimp only at hl hH
                try dsimp only at hM hFr hz3
                obtain ⟨-, -, -, -, -, hb6⟩ := hM.b
                refine lv_aload_n hE.1 hE.2.1 dX11_readProgram_146 rfl (lv_at hl 0 rfl) ?_
                refine rm_getr hE hH hG fl_X11_50 rfl (by decide) dX11_readProgram_147 ?_
                refine lv_bipush (v := nI 41) hE.1 hE.2.1 dX11_readProgram_150 (by decide) ?_
                refine lv_iload_n hE.1 hE.2.1 dX11_readProgram_152 rfl (lv_at hl 1 rfl) ?_
                refine rn_imul hE dX11_readProgram_153 ?_
                refine lv_iload_n hE.1 hE.2.1 dX11_readProgram_154 rfl (lv_at hl 3 rfl) ?_
                refine rn_iadd hE dX11_readProgram_155 ?_
                refine lv_aload_n hE.1 hE.2.1 dX11_readProgram_156 rfl (lv_at hl 0 rfl) ?_
                refine lv_iload_n hE.1 hE.2.1 dX11_readProgram_157 rfl (lv_at hl 2 rfl) ?_
                have hFr0 := hFr
                refine lv_iconst (v := nI 5) hE.1 hE.2.1 dX11_readProgram_158 (by decide) ?_
                refine rg_VI (As := [.int (nI T), .int (nI 5)]) (rest := [.int (nI (41 * P + ws.length)), .ref (G.ad 18)]) hE hml hH mc_X11_202 (c_readValue l z G hG iv6 jv B n (ndK B n (rdTs B n tab.1 (200 - fs.length) fs t3).1 (rdTs B n tab.1 (200 - fs.length) fs t3).2.2 24).1 (ndK B n (rdTs B n tab.1 (200 - fs.length) fs t3).1 (rdTs B n tab.1 (200 - fs.length) fs t3).2.2 24).2 hM T 5 hT6 (by decide) tab.2.1 (INS.f2 (INS.f2 hB hFo (fun lb j h => by simp only [pP] at h; omega)) hFr (fun lb j h => by simp only [pX] at h; omega)).2.2.1) hG.1.1 hG.1.2 (by decide) rfl ⟨Nat.le_of_ble_eq_true rfl, Nat.le_of_ble_eq_true rfl⟩ rfl hl.1 (by simp [Value.category]) dX11_readProgram_159 ⟨Nat.le_of_ble_eq_true rfl, Nat.le_of_ble_eq_true rfl⟩ (fun r159 G159 iv159 jv159 H locs hp159 hH => ?_)
                obtain ⟨rfl, rfl, ⟨hM, hrv159⟩, hF159⟩ := hp159
                have hFr := hFr.tr (hF159.mono (fun _ _ h => Or.inl h))
                refine rm_iast hE hH hG (k := 18) (by decide) rfl (N := 492) rfl (n := 41 * P + ws.length) (by omega) (v := r159) dX11_readProgram_162 (fun H locs hH => ?_)
                have hM := hM.up 18 (41 * P + ws.length) r159 (by decide) (by decide)
                refine lv_aload_n hE.1 hE.2.1 dX11_readProgram_163 rfl (lv_at hl 0 rfl) ?_
                refine lv_bipush (v := nI 59) hE.1 hE.2.1 dX11_readProgram_164 (by decide) ?_
                refine rg_VV (As := [.int (nI 59)]) (rest := []) hE hml hH mc_X11_196 (c_need l z G hG (up2 iv159 18 (41 * P + ws.length) r159) jv B n (rdV B n tab.2.1 (ndK B n (rdTs B n tab.1 (200 - fs.length) fs t3).1 (rdTs B n tab.1 (200 - fs.length) fs t3).2.2 24).1 (ndK B n (rdTs B n tab.1 (200 - fs.length) fs t3).1 (rdTs B n tab.1 (200 - fs.length) fs t3).2.2 24).2).1 (rdV B n tab.2.1 (ndK B n (rdTs B n tab.1 (200 - fs.length) fs t3).1 (rdTs B n tab.1 (200 - fs.length) fs t3).2.2 24).1 (ndK B n (rdTs B n tab.1 (200 - fs.length) fs t3).1 (rdTs B n tab.1 (200 - fs.length) fs t3).2.2 24).2).2.2 hM 59 (by decide)) hG.1.1 hG.1.2 (by decide) rfl ⟨Nat.le_of_ble_eq_true rfl, Nat.le_of_ble_eq_true rfl⟩ rfl hl.1 (by simp [Value.category]) dX11_readProgram_166 ⟨Nat.le_of_ble_eq_true rfl, Nat.le_of_ble_eq_true rfl⟩ (fun G166 iv166 jv166 H locs hp166 hH => ?_)
                obtain ⟨rfl, rfl, hM, hF166⟩ := hp166
                have hFx : Fr (up2 iv1 19 (41 * P + ws.length) (nI fs.length)) iv166 (fun lb j => pX P lb j ∨ (lb = 18 ∧ j = 41 * P + ws.length)) := (Fr.up ((hFr0.mono (fun _ _ h => Or.inl h)).tr (hF159.mono (fun _ _ h => Or.inl (Or.inl h)))) (Or.inr ⟨rfl, rfl⟩)).tr (hF166.mono (fun _ _ h => Or.inl (Or.inl h)))
                have hFr : Fr iv iv166 (pP P) := hFo.tr (hFx.mono (fun lb j h => by simp only [pX, pP] at h ⊢; omega))
                have hMr : MP iv166 B n (rdWhen B n tab.1 tab.2.1 fs t3).1 (rdWhen B n tab.1 tab.2.1 fs t3).2.2 := hM
                have hM := hMr
                obtain ⟨-, -, -, -, -, hb166⟩ := hM.b
                refine lv_aload_n hE.1 hE.2.1 dX11_readProgram_169 rfl (lv_at hl 0 rfl) ?_
                refine rm_geti hE hH hG fl_X11_131 rfl (v := nI ((rdWhen B n tab.1 tab.2.1 fs t3).1)) (hM.2.2.2.1) dX11_readProgram_170 ?_
                refine rn_if_ne (tgt := 179) hE dX11_readProgram_173 (by decide) (by omega) (fun c173 => ?_) (fun c173 => ?_)
                · have hl : lv_has ls 5 [(0, .ref (G.ad 0)), (1, .int (nI P)), (2, .int (nI T)), (3, .int (nI ws.length))] := by first | exact hl | (rw [List.length_append]; exact hl)
                  refine lv_goto (tgt := 11) hE.1 hE.2.1 dX11_readProgram_179 (by decide) ?_
                  exact ih11 (iv166, (rdWhen B n tab.1 tab.2.1 fs t3).1, fs, ws, (rdWhen B n tab.1 tab.2.1 fs t3).2.2) _ _ _ (show (if _ then _ else _) < (if _ then _ else _) by rw [if_neg c173, if_pos rfl]; omega) ⟨hM, hFr, fun h => absurd h c173, fun _ => ⟨h40, by rw [← hrw, if_pos c173]; exact ⟨rfl, rfl⟩⟩⟩ (lv_sub hl [0, 1, 2, 3] rfl) hH
                · rw [if_neg (by simp [c173])] at hrw
                  rw [c173] at hM
                  have hok := hok c173
                  have hv0 : (rdV B n tab.2.1 (ndK B n (rdTs B n tab.1 (200 - fs.length) fs t3).1 (rdTs B n tab.1 (200 - fs.length) fs t3).2.2 24).1 (ndK B n (rdTs B n tab.1 (200 - fs.length) fs t3).1 (rdTs B n tab.1 (200 - fs.length) fs t3).2.2 24).2).1 = 0 := nd_0 (show (nd B n _ _ 59).1 = 0 from c173)
                  have ha0 : (ndK B n (rdTs B n tab.1 (200 - fs.length) fs t3).1 (rdTs B n tab.1 (200 - fs.length) fs t3).2.2 24).1 = 0 := rdV_0 hv0
                  have hq0 : (rdTs B n tab.1 (200 - fs.length) fs t3).1 = 0 := (ndK_pos ha0).1
                  obtain ⟨h22, hT⟩ := hz3 hq0
                  have hFy : Fr iv6 iv166 (fun lb j => (lb = 0 ∧ 29 ≤ j ∧ j ≤ 36 ∧ j ≠ 30) ∨ (lb = 18 ∧ j = 41 * P + ws.length)) := (Fr.up (hF159.mono (fun _ _ h => Or.inl h)) (Or.inr ⟨rfl, rfl⟩)).tr (hF166.mono (fun _ _ h => Or.inl h))
                  have h22 : iv166 0 22 = nI (rdWhen B n tab.1 tab.2.1 fs t3).2.1.1.length := (hFy 0 22 (by simp)).trans h22
                  have hT : TST iv166 P (rdWhen B n tab.1 tab.2.1 fs t3).2.1.1 := hT.fr hFy (fun lb j h _ _ => by omega)
                  have hW1 := hW1.fr hFx (fun lb j h _ _ => by simp only [pX]; omega)
                  have h19 : iv166 19 (41 * P + ws.length) = nI fs.length := (hFx 19 _ (by simp)).trans h19
                  have h18 : iv166 18 (41 * P + ws.length) = nI (rdWhen B n tab.1 tab.2.1 fs t3).2.1.2 := (hF166 18 _ (by simp)).trans (up2_s.trans (hrv159 hv0))
                  have hW2 := WST.add hW1 h19 h18
                  refine lv_iinc (v := nI (ws.length + 1)) (lv' := [(3, .int (nI (ws.length + 1))), (0, .ref (G.ad 0)), (1, .int (nI P)), (2, .int (nI T))]) hE.1 hE.2.1 dX11_readProgram_176 hl (k := 3) rfl (nI_1 _) (by decide) rfl (fun ls hl => ?_)
                  have hl : lv_has ls 5 [(3, .int (nI ((ws ++ [(fs.length, (rdWhen B n tab.1 tab.2.1 fs t3).2.1.2)]).length))), (0, .ref (G.ad 0)), (1, .int (nI P)), (2, .int (nI T))] := by first | exact hl | (rw [List.length_append]; exact hl)
                  refine lv_goto (tgt := 11) hE.1 hE.2.1 dX11_readProgram_179 (by decide) ?_
                  exact ih11 (iv166, 0, (rdWhen B n tab.1 tab.2.1 fs t3).2.1.1, ws ++ [(fs.length, (rdWhen B n tab.1 tab.2.1 fs t3).2.1.2)], (rdWhen B n tab.1 tab.2.1 fs t3).2.2) _ _ _ (show (if _ then _ else _) < (if _ then _ else _) by rw [if_pos rfl, if_pos rfl]; simp; omega) ⟨hM, hFr, fun _ => ⟨h22, hT, hW2, by simp; omega, hok.1, hok.2.1, hrw⟩, fun h => absurd rfl h⟩ (lv_sub hl [1, 2, 3, 0] rfl) hH
              · refine lv_aload_n hE.1 hE.2.1 dX11_readProgram_114 rfl (lv_at hl 0 rfl) ?_
                refine rm_geti hE hH hG fl_X11_131 rfl (v := nI ((rdTs B n tab.1 (200 - fs.length) fs t3).1)) (hM.2.2.2.1) dX11_readProgram_115 ?_
                refine rn_if_ne (tgt := 135) hE dX11_readProgram_118 (by decide) (by omega) (fun c118 => ?_) (fun c118 => ?_)
                · refine lv_aload_n hE.1 hE.2.1 dX11_readProgram_135 rfl (lv_at hl 0 rfl) ?_
                  refine rm_geti hE hH hG fl_X11_131 rfl (v := nI ((rdTs B n tab.1 (200 - fs.length) fs t3).1)) (hM.2.2.2.1) dX11_readProgram_136 ?_
                  refine rn_if_ne (tgt := 146) hE dX11_readProgram_139 (by decide) (by omega) (fun c139 => ?_) (fun c139 => ?_)
                  · exact J146 iv5 _ _ _ ⟨by rw [ndK, if_pos c118]; exact hM, hFr, hz3⟩ (lv_sub hl [0, 1, 2, 3] rfl) hH
                  · exact absurd c139 c118
                · rw [c118] at hM
                  obtain ⟨h22, hT⟩ := hz3 c118
                  refine lv_aload_n hE.1 hE.2.1 dX11_readProgram_121 rfl (lv_at hl 0 rfl) ?_
                  refine rs_ldc (i := 24) hE (by decide) rfl rfl dX11_readProgram_122 ?_
                  refine rg_VI (As := [.ref (z.1 24)]) (rest := []) hE hml hH mc_X11_149 (c_is l z G hG iv5 jv B n 0 ((rdTs B n tab.1 (200 - fs.length) fs t3).2.2) hM 24 (by decide)) hG.1.1 hG.1.2 (by decide) rfl ⟨Nat.le_of_ble_eq_true rfl, Nat.le_of_ble_eq_true rfl⟩ rfl hl.1 (by simp [Value.category]) dX11_readProgram_124 ⟨Nat.le_of_ble_eq_true rfl, Nat.le_of_ble_eq_true rfl⟩ (fun r124 G124 iv124 jv124 H locs hp124 hH => ?_)
                  obtain ⟨rfl, rfl, rfl, rfl⟩ := hp124
                  refine rn_ifb_ne (tgt := 135) hE dX11_readProgram_127 (by decide) (fun c127 => ?_) (fun c127 => ?_)
                  · rw [kw0] at c127
                    refine lv_aload_n hE.1 hE.2.1 dX11_readProgram_135 rfl (lv_at hl 0 rfl) ?_
                    refine rm_geti hE hH hG fl_X11_131 rfl (v := nI 0) (hM.2.2.2.1) dX11_readProgram_136 ?_
                    refine rn_if_ne (tgt := 146) hE dX11_readProgram_139 (by decide) (by omega) (fun c139 => ?_) (fun c139 => ?_)
                    · omega
                    · refine lv_aload_n hE.1 hE.2.1 dX11_readProgram_142 rfl (lv_at hl 0 rfl) ?_
                      refine rg_VV (As := []) (rest := []) hE hml hH mc_X11_172 (c_step l z G hG iv5 jv B n (te ((rdTs B n tab.1 (200 - fs.length) fs t3).2.2)) hM.1 (TV_b hM.2.2.1).2.1 hM.2.1.1) hG.1.1 hG.1.2 (by decide) rfl ⟨Nat.le_of_ble_eq_true rfl, Nat.le_of_ble_eq_true rfl⟩ rfl hl.1 (by simp [Value.category]) dX11_readProgram_143 ⟨Nat.le_of_ble_eq_true rfl, Nat.le_of_ble_eq_true rfl⟩ (fun G143 iv143 jv143 H locs hp143 hH => ?_)
                      obtain ⟨rfl, rfl, hTR143, hF143⟩ := hp143
                      have hM := MP.step hM hTR143 hF143
                      have hFr := hFr.tr ((pS_pQ hF143).mono (fun _ _ h => Or.inl h))
                      exact J146 iv143 _ _ _ ⟨by rw [ndK, if_neg (by simp [c118]), if_pos c127]; exact hM, hFr, fun _ => ⟨(hF143 0 22 (by decide)).trans h22, hT.fr hF143 (fun lb j h _ _ => by simp only [pS]; omega)⟩⟩ (lv_sub hl [0, 1, 2, 3] rfl) hH
                  · rw [kw0] at c127
                    refine lv_aload_n hE.1 hE.2.1 dX11_readProgram_130 rfl (lv_at hl 0 rfl) ?_
                    refine lv_iconst (v := nI 1) hE.1 hE.2.1 dX11_readProgram_131 (by decide) ?_
                    refine rg_VV (As := [.int (nI 1)]) (rest := []) hE hml hH mc_X11_168 (c_wrong l z G hG iv5 jv B n 0 ((rdTs B n tab.1 (200 - fs.length) fs t3).2.2) hM 1 (by decide)) hG.1.1 hG.1.2 (by decide) rfl ⟨Nat.le_of_ble_eq_true rfl, Nat.le_of_ble_eq_true rfl⟩ rfl hl.1 (by simp [Value.category]) dX11_readProgram_132 ⟨Nat.le_of_ble_eq_true rfl, Nat.le_of_ble_eq_true rfl⟩ (fun G132 iv132 jv132 H locs hp132 hH => ?_)
                    obtain ⟨rfl, rfl, hM, hF132⟩ := hp132
                    rw [if_pos rfl] at hM
                    have hFr := hFr.tr (hF132.mono (fun _ _ h => Or.inl h))
                    refine lv_aload_n hE.1 hE.2.1 dX11_readProgram_135 rfl (lv_at hl 0 rfl) ?_
                    refine rm_geti hE hH hG fl_X11_131 rfl (v := nI 1) (hM.2.2.2.1) dX11_readProgram_136 ?_
                    refine rn_if_ne (tgt := 146) hE dX11_readProgram_139 (by decide) (by omega) (fun c139 => ?_) (fun c139 => ?_)
                    · exact J146 iv132 _ _ _ ⟨by rw [ndK, if_neg (by simp [c118]), if_neg (by simp [c127])]; exact hM, hFr, fun _ => ⟨(hF132 0 22 (by decide)).trans h22, hT.fr hF132 (fun lb j h _ _ => by simp only [pQ]; omega)⟩⟩ (lv_sub hl [0, 1, 2, 3] rfl) hH
                    · omega
            · refine rg_loop (σ := IV × Nat × Bool × List (Nat × Nat) × Tok) (nL := 5) (fun (u : IV × Nat × Bool × List (Nat × Nat) × Tok) => match u with | (iv2, b2, more, fs2, t4) => if b2 = 0 ∧ more = true then 1000 - fs2.length else 0) (fun (u : IV × Nat × Bool × List (Nat × Nat) × Tok) => match u with | (iv2, b2, more, fs2, t4) => [(0, .ref (G.ad 0)), (1, .int (nI P)), (2, .int (nI T)), (3, .int (nI ws.length)), (4, .int (bI more))]) (fun (u : IV × Nat × Bool × List (Nat × Nat) × Tok) => match u with | (iv2, b2, more, fs2, t4) => G) (fun (u : IV × Nat × Bool × List (Nat × Nat) × Tok) => match u with | (iv2, b2, more, fs2, t4) => iv2) (fun (u : IV × Nat × Bool × List (Nat × Nat) × Tok) => match u with | (iv2, b2, more, fs2, t4) => jv) (fun (u : IV × Nat × Bool × List (Nat × Nat) × Tok) => match u with | (iv2, b2, more, fs2, t4) => MP iv2 B n b2 t4 ∧ Fr (up2 iv1 19 (41 * P + ws.length) (nI fs.length)) iv2 (pX P) ∧ (b2 = 0 → iv2 0 22 = nI fs2.length ∧ TST iv2 P fs2 ∧ (more = true → 6 * fs2.length ≤ te t4 ∧ rdTs B n tab.1 (200 - fs2.length) fs2 t4 = rdTs B n tab.1 (200 - fs.length) fs t3) ∧ (more = false → rdTs B n tab.1 (200 - fs.length) fs t3 = (0, fs2, t4))) ∧ (b2 ≠ 0 → (rdTs B n tab.1 (200 - fs.length) fs t3).1 = b2 ∧ (rdTs B n tab.1 (200 - fs.length) fs t3).2.2 = t4)) ?_ ((up2 iv1 19 (41 * P + ws.length) (nI fs.length), 0, true, fs, t3)) ⟨hM, Fr.rf, fun _ => ⟨h22, hT, fun _ => ⟨h6te, rfl⟩, fun h => by cases h⟩, fun h => absurd rfl h⟩ (lv_sub hl [1, 2, 3, 4, 0] rfl) hH
              rintro ⟨iv2, b2, more, fs2, t4⟩ H locs ls ⟨hM, hFr, hz2, hnz2⟩ hl hH ih81
              try dsimp only at hl hH ih81
              try dsimp only at hM hFr hz2 hnz2
              have hb42 := hM.2.2.2.2.1
              refine lv_aload_n hE.1 hE.2.1 dX11_readProgram_81 rfl (lv_at hl 0 rfl) ?_
              refine rm_geti hE hH hG fl_X11_131 rfl (v := nI b2) (hM.2.2.2.1) dX11_readProgram_82 ?_
              refine rn_if_ne (tgt := 114) hE dX11_readProgram_85 (by decide) (by omega) (fun c85 => ?_) (fun c85 => ?_)
              · have hfin2 := hnz2 c85
                refine rg_join (σ := IV) (nL := 5) (pcJ := 146) hH (fun (iv6 : IV) => [(0, .ref (G.ad 0)), (1, .int (nI P)), (2, .int (nI T)), (3, .int (nI ws.length))]) (fun (iv6 : IV) => []) (fun (iv6 : IV) => G) (fun (iv6 : IV) => iv6) (fun (iv6 : IV) => jv) (fun (iv6 : IV) => MP iv6 B n (ndK B n (rdTs B n tab.1 (200 - fs.length) fs t3).1 (rdTs B n tab.1 (200 - fs.length) fs t3).2.2 24).1 (ndK B n (rdTs B n tab.1 (200 - fs.length) fs t3).1 (rdTs B n tab.1 (200 - fs.length) fs t3).2.2 24).2 ∧ Fr (up2 iv1 19 (41 * P + ws.length) (nI fs.length)) iv6 (pX P) ∧ ((rdTs B n tab.1 (200 - fs.length) fs t3).1 = 0 → iv6 0 22 = nI (rdTs B n tab.1 (200 - fs.length) fs t3).2.1.length ∧ TST iv6 P (rdTs B n tab.1 (200 - fs.length) fs t3).2.1)) ?_ (fun J146 => ?_)
                · rintro iv6 H locs ls ⟨hM, hFr, hz3⟩ hl hH
                  try dsimp only at hl hH
                  try dsimp only at hM hFr hz3
                  obtain ⟨-, -, -, -, -, hb6⟩ := hM.b
                  refine lv_aload_n hE.1 hE.2.1 dX11_readProgram_146 rfl (lv_at hl 0 rfl) ?_
                  refine rm_getr hE hH hG fl_X11_50 rfl (by decide) dX11_readProgram_147 ?_
                  refine lv_bipush (v := nI 41) hE.1 hE.2.1 dX11_readProgram_150 (by decide) ?_
                  refine lv_iload_n hE.1 hE.2.1 dX11_readProgram_152 rfl (lv_at hl 1 rfl) ?_
                  refine rn_imul hE dX11_readProgram_153 ?_
                  refine lv_iload_n hE.1 hE.2.1 dX11_readProgram_154 rfl (lv_at hl 3 rfl) ?_
                  refine rn_iadd hE dX11_readProgram_155 ?_
                  refine lv_aload_n hE.1 hE.2.1 dX11_readProgram_156 rfl (lv_at hl 0 rfl) ?_
                  refine lv_iload_n hE.1 hE.2.1 dX11_readProgram_157 rfl (lv_at hl 2 rfl) ?_
                  have hFr0 := hFr
                  refine lv_iconst (v := nI 5) hE.1 hE.2.1 dX11_readProgram_158 (by decide) ?_
                  refine rg_VI (As := [.int (nI T), .int (nI 5)]) (rest := [.int (nI (41 * P + ws.length)), .ref (G.ad 18)]) hE hml hH mc_X11_202 (c_readValue l z G hG iv6 jv B n (ndK B n (rdTs B n tab.1 (200 - fs.length) fs t3).1 (rdTs B n tab.1 (200 - fs.length) fs t3).2.2 24).1 (ndK B n (rdTs B n tab.1 (200 - fs.length) fs t3).1 (rdTs B n tab.1 (200 - fs.length) fs t3).2.2 24).2 hM T 5 hT6 (by decide) tab.2.1 (INS.f2 (INS.f2 hB hFo (fun lb j h => by simp only [pP] at h; omega)) hFr (fun lb j h => by simp only [pX] at h; omega)).2.2.1) hG.1.1 hG.1.2 (by decide) rfl ⟨Nat.le_of_ble_eq_true rfl, Nat.le_of_ble_eq_true rfl⟩ rfl hl.1 (by simp [Value.category]) dX11_readProgram_159 ⟨Nat.le_of_ble_eq_true rfl, Nat.le_of_ble_eq_true rfl⟩ (fun r159 G159 iv159 jv159 H locs hp159 hH => ?_)
                  obtain ⟨rfl, rfl, ⟨hM, hrv159⟩, hF159⟩ := hp159
                  have hFr := hFr.tr (hF159.mono (fun _ _ h => Or.inl h))
                  refine rm_iast hE hH hG (k := 18) (by decide) rfl (N := 492) rfl (n := 41 * P + ws.length) (by omega) (v := r159) dX11_readProgram_162 (fun H locs hH => ?_)
                  have hM := hM.up 18 (41 * P + ws.length) r159 (by decide) (by decide)
                  refine lv_aload_n hE.1 hE.2.1 dX11_readProgram_163 rfl (lv_at hl 0 rfl) ?_
                  refine lv_bipush (v := nI 59) hE.1 hE.2.1 dX11_readProgram_164 (by decide) ?_
                  refine rg_VV (As := [.int (nI 59)]) (rest := []) hE hml hH mc_X11_196 (c_need l z G hG (up2 iv159 18 (41 * P + ws.length) r159) jv B n (rdV B n tab.2.1 (ndK B n (rdTs B n tab.1 (200 - fs.length) fs t3).1 (rdTs B n tab.1 (200 - fs.length) fs t3).2.2 24).1 (ndK B n (rdTs B n tab.1 (200 - fs.length) fs t3).1 (rdTs B n tab.1 (200 - fs.length) fs t3).2.2 24).2).1 (rdV B n tab.2.1 (ndK B n (rdTs B n tab.1 (200 - fs.length) fs t3).1 (rdTs B n tab.1 (200 - fs.length) fs t3).2.2 24).1 (ndK B n (rdTs B n tab.1 (200 - fs.length) fs t3).1 (rdTs B n tab.1 (200 - fs.length) fs t3).2.2 24).2).2.2 hM 59 (by decide)) hG.1.1 hG.1.2 (by decide) rfl ⟨Nat.le_of_ble_eq_true rfl, Nat.le_of_ble_eq_true rfl⟩ rfl hl.1 (by simp [Value.category]) dX11_readProgram_166 ⟨Nat.le_of_ble_eq_true rfl, Nat.le_of_ble_eq_true rfl⟩ (fun G166 iv166 jv166 H locs hp166 hH => ?_)
                  obtain ⟨rfl, rfl, hM, hF166⟩ := hp166
                  have hFx : Fr (up2 iv1 19 (41 * P + ws.length) (nI fs.length)) iv166 (fun lb j => pX P lb j ∨ (lb = 18 ∧ j = 41 * P + ws.length)) := (Fr.up ((hFr0.mono (fun _ _ h => Or.inl h)).tr (hF159.mono (fun _ _ h => Or.inl (Or.inl h)))) (Or.inr ⟨rfl, rfl⟩)).tr (hF166.mono (fun _ _ h => Or.inl (Or.inl h)))
                  have hFr : Fr iv iv166 (pP P) := hFo.tr (hFx.mono (fun lb j h => by simp only [pX, pP] at h ⊢; omega))
                  have hMr : MP iv166 B n (rdWhen B n tab.1 tab.2.1 fs t3).1 (rdWhen B n tab.1 tab.2.1 fs t3).2.2 := hM
                  have hM := hMr
                  obtain ⟨-, -, -, -, -, hb166⟩ := hM.b
                  refine lv_aload_n hE.1 hE.2.1 dX11_readProgram_169 rfl (lv_at hl 0 rfl) ?_
                  refine rm_geti hE hH hG fl_X11_131 rfl (v := nI ((rdWhen B n tab.1 tab.2.1 fs t3).1)) (hM.2.2.2.1) dX11_readProgram_170 ?_
                  refine rn_if_ne (tgt := 179) hE dX11_readProgram_173 (by decide) (by omega) (fun c173 => ?_) (fun c173 => ?_)
                  · have hl : lv_has ls 5 [(0, .ref (G.ad 0)), (1, .int (nI P)), (2, .int (nI T)), (3, .int (nI ws.length))] := by first | exact hl | (rw [List.length_append]; exact hl)
                    refine lv_goto (tgt := 11) hE.1 hE.2.1 dX11_readProgram_179 (by decide) ?_
                    exact ih11 (iv166, (rdWhen B n tab.1 tab.2.1 fs t3).1, fs, ws, (rdWhen B n tab.1 tab.2.1 fs t3).2.2) _ _ _ (show (if _ then _ else _) < (if _ then _ else _) by rw [if_neg c173, if_pos rfl]; omega) ⟨hM, hFr, fun h => absurd h c173, fun _ => ⟨h40, by rw [← hrw, if_pos c173]; exact ⟨rfl, rfl⟩⟩⟩ (lv_sub hl [0, 1, 2, 3] rfl) hH
                  · rw [if_neg (by simp [c173])] at hrw
                    rw [c173] at hM
                    have hok := hok c173
                    have hv0 : (rdV B n tab.2.1 (ndK B n (rdTs B n tab.1 (200 - fs.length) fs t3).1 (rdTs B n tab.1 (200 - fs.length) fs t3).2.2 24).1 (ndK B n (rdTs B n tab.1 (200 - fs.length) fs t3).1 (rdTs B n tab.1 (200 - fs.length) fs t3).2.2 24).2).1 = 0 := nd_0 (show (nd B n _ _ 59).1 = 0 from c173)
                    have ha0 : (ndK B n (rdTs B n tab.1 (200 - fs.length) fs t3).1 (rdTs B n tab.1 (200 - fs.length) fs t3).2.2 24).1 = 0 := rdV_0 hv0
                    have hq0 : (rdTs B n tab.1 (200 - fs.length) fs t3).1 = 0 := (ndK_pos ha0).1
                    obtain ⟨h22, hT⟩ := hz3 hq0
                    have hFy : Fr iv6 iv166 (fun lb j => (lb = 0 ∧ 29 ≤ j ∧ j ≤ 36 ∧ j ≠ 30) ∨ (lb = 18 ∧ j = 41 * P + ws.length)) := (Fr.up (hF159.mono (fun _ _ h => Or.inl h)) (Or.inr ⟨rfl, rfl⟩)).tr (hF166.mono (fun _ _ h => Or.inl h))
                    have h22 : iv166 0 22 = nI (rdWhen B n tab.1 tab.2.1 fs t3).2.1.1.length := (hFy 0 22 (by simp)).trans h22
                    have hT : TST iv166 P (rdWhen B n tab.1 tab.2.1 fs t3).2.1.1 := hT.fr hFy (fun lb j h _ _ => by omega)
                    have hW1 := hW1.fr hFx (fun lb j h _ _ => by simp only [pX]; omega)
                    have h19 : iv166 19 (41 * P + ws.length) = nI fs.length := (hFx 19 _ (by simp)).trans h19
                    have h18 : iv166 18 (41 * P + ws.length) = nI (rdWhen B n tab.1 tab.2.1 fs t3).2.1.2 := (hF166 18 _ (by simp)).trans (up2_s.trans (hrv159 hv0))
                    have hW2 := WST.add hW1 h19 h18
                    refine lv_iinc (v := nI (ws.length + 1)) (lv' := [(3, .int (nI (ws.length + 1))), (0, .ref (G.ad 0)), (1, .int (nI P)), (2, .int (nI T))]) hE.1 hE.2.1 dX11_readProgram_176 hl (k := 3) rfl (nI_1 _) (by decide) rfl (fun ls hl => ?_)
                    have hl : lv_has ls 5 [(3, .int (nI ((ws ++ [(fs.length, (rdWhen B n tab.1 tab.2.1 fs t3).2.1.2)]).length))), (0, .ref (G.ad 0)), (1, .int (nI P)), (2, .int (nI T))] := by first | exact hl | (rw [List.length_append]; exact hl)
                    refine lv_goto (tgt := 11) hE.1 hE.2.1 dX11_readProgram_179 (by decide) ?_
                    exact ih11 (iv166, 0, (rdWhen B n tab.1 tab.2.1 fs t3).2.1.1, ws ++ [(fs.length, (rdWhen B n tab.1 tab.2.1 fs t3).2.1.2)], (rdWhen B n tab.1 tab.2.1 fs t3).2.2) _ _ _ (show (if _ then _ else _) < (if _ then _ else _) by rw [if_pos rfl, if_pos rfl]; simp; omega) ⟨hM, hFr, fun _ => ⟨h22, hT, hW2, by simp; omega, hok.1, hok.2.1, hrw⟩, fun h => absurd rfl h⟩ (lv_sub hl [1, 2, 3, 0] rfl) hH
                · exact J114 iv2 _ _ _ ⟨by rw [hfin2.1, hfin2.2]; exact hM, hFr, fun h => absurd (hfin2.1.symm.trans h) c85⟩ (lv_sub hl [0, 1, 2, 3] rfl) hH
              · subst c85
                obtain ⟨h22, hT, hmt, hmf⟩ := hz2 rfl
                refine lv_iload hE.1 hE.2.1 dX11_readProgram_88 (lv_at hl 4 rfl) ?_
                refine rn_ifb_eq (tgt := 114) hE dX11_readProgram_90 (by decide) (fun c90 => ?_) (fun c90 => ?_)
                · refine rg_join (σ := IV) (nL := 5) (pcJ := 146) hH (fun (iv6 : IV) => [(0, .ref (G.ad 0)), (1, .int (nI P)), (2, .int (nI T)), (3, .int (nI ws.length))]) (fun (iv6 : IV) => []) (fun (iv6 : IV) => G) (fun (iv6 : IV) => iv6) (fun (iv6 : IV) => jv) (fun (iv6 : IV) => MP iv6 B n (ndK B n (rdTs B n tab.1 (200 - fs.length) fs t3).1 (rdTs B n tab.1 (200 - fs.length) fs t3).2.2 24).1 (ndK B n (rdTs B n tab.1 (200 - fs.length) fs t3).1 (rdTs B n tab.1 (200 - fs.length) fs t3).2.2 24).2 ∧ Fr (up2 iv1 19 (41 * P + ws.length) (nI fs.length)) iv6 (pX P) ∧ ((rdTs B n tab.1 (200 - fs.length) fs t3).1 = 0 → iv6 0 22 = nI (rdTs B n tab.1 (200 - fs.length) fs t3).2.1.length ∧ TST iv6 P (rdTs B n tab.1 (200 - fs.length) fs t3).2.1)) ?_ (fun J146 => ?_)
                  · rintro iv6 H locs ls ⟨hM, hFr, hz3⟩ hl hH
                    try dsimp only at hl hH
                    try dsimp only at hM hFr hz3
                    obtain ⟨-, -, -, -, -, hb6⟩ := hM.b
                    refine lv_aload_n hE.1 hE.2.1 dX11_readProgram_146 rfl (lv_at hl 0 rfl) ?_
                    refine rm_getr hE hH hG fl_X11_50 rfl (by decide) dX11_readProgram_147 ?_
                    refine lv_bipush (v := nI 41) hE.1 hE.2.1 dX11_readProgram_150 (by decide) ?_
                    refine lv_iload_n hE.1 hE.2.1 dX11_readProgram_152 rfl (lv_at hl 1 rfl) ?_
                    refine rn_imul hE dX11_readProgram_153 ?_
                    refine lv_iload_n hE.1 hE.2.1 dX11_readProgram_154 rfl (lv_at hl 3 rfl) ?_
                    refine rn_iadd hE dX11_readProgram_155 ?_
                    refine lv_aload_n hE.1 hE.2.1 dX11_readProgram_156 rfl (lv_at hl 0 rfl) ?_
                    refine lv_iload_n hE.1 hE.2.1 dX11_readProgram_157 rfl (lv_at hl 2 rfl) ?_
                    have hFr0 := hFr
                    refine lv_iconst (v := nI 5) hE.1 hE.2.1 dX11_readProgram_158 (by decide) ?_
                    refine rg_VI (As := [.int (nI T), .int (nI 5)]) (rest := [.int (nI (41 * P + ws.length)), .ref (G.ad 18)]) hE hml hH mc_X11_202 (c_readValue l z G hG iv6 jv B n (ndK B n (rdTs B n tab.1 (200 - fs.length) fs t3).1 (rdTs B n tab.1 (200 - fs.length) fs t3).2.2 24).1 (ndK B n (rdTs B n tab.1 (200 - fs.length) fs t3).1 (rdTs B n tab.1 (200 - fs.length) fs t3).2.2 24).2 hM T 5 hT6 (by decide) tab.2.1 (INS.f2 (INS.f2 hB hFo (fun lb j h => by simp only [pP] at h; omega)) hFr (fun lb j h => by simp only [pX] at h; omega)).2.2.1) hG.1.1 hG.1.2 (by decide) rfl ⟨Nat.le_of_ble_eq_true rfl, Nat.le_of_ble_eq_true rfl⟩ rfl hl.1 (by simp [Value.category]) dX11_readProgram_159 ⟨Nat.le_of_ble_eq_true rfl, Nat.le_of_ble_eq_true rfl⟩ (fun r159 G159 iv159 jv159 H locs hp159 hH => ?_)
                    obtain ⟨rfl, rfl, ⟨hM, hrv159⟩, hF159⟩ := hp159
                    have hFr := hFr.tr (hF159.mono (fun _ _ h => Or.inl h))
                    refine rm_iast hE hH hG (k := 18) (by decide) rfl (N := 492) rfl (n := 41 * P + ws.length) (by omega) (v := r159) dX11_readProgram_162 (fun H locs hH => ?_)
                    have hM := hM.up 18 (41 * P + ws.length) r159 (by decide) (by decide)
                    refine lv_aload_n hE.1 hE.2.1 dX11_readProgram_163 rfl (lv_at hl 0 rfl) ?_
                    refine lv_bipush (v := nI 59) hE.1 hE.2.1 dX11_readProgram_164 (by decide) ?_
                    refine rg_VV (As := [.int (nI 59)]) (rest := []) hE hml hH mc_X11_196 (c_need l z G hG (up2 iv159 18 (41 * P + ws.length) r159) jv B n (rdV B n tab.2.1 (ndK B n (rdTs B n tab.1 (200 - fs.length) fs t3).1 (rdTs B n tab.1 (200 - fs.length) fs t3).2.2 24).1 (ndK B n (rdTs B n tab.1 (200 - fs.length) fs t3).1 (rdTs B n tab.1 (200 - fs.length) fs t3).2.2 24).2).1 (rdV B n tab.2.1 (ndK B n (rdTs B n tab.1 (200 - fs.length) fs t3).1 (rdTs B n tab.1 (200 - fs.length) fs t3).2.2 24).1 (ndK B n (rdTs B n tab.1 (200 - fs.length) fs t3).1 (rdTs B n tab.1 (200 - fs.length) fs t3).2.2 24).2).2.2 hM 59 (by decide)) hG.1.1 hG.1.2 (by decide) rfl ⟨Nat.le_of_ble_eq_true rfl, Nat.le_of_ble_eq_true rfl⟩ rfl hl.1 (by simp [Value.category]) dX11_readProgram_166 ⟨Nat.le_of_ble_eq_true rfl, Nat.le_of_ble_eq_true rfl⟩ (fun G166 iv166 jv166 H locs hp166 hH => ?_)
                    obtain ⟨rfl, rfl, hM, hF166⟩ := hp166
                    have hFx : Fr (up2 iv1 19 (41 * P + ws.length) (nI fs.length)) iv166 (fun lb j => pX P lb j ∨ (lb = 18 ∧ j = 41 * P + ws.length)) := (Fr.up ((hFr0.mono (fun _ _ h => Or.inl h)).tr (hF159.mono (fun _ _ h => Or.inl (Or.inl h)))) (Or.inr ⟨rfl, rfl⟩)).tr (hF166.mono (fun _ _ h => Or.inl (Or.inl h)))
                    have hFr : Fr iv iv166 (pP P) := hFo.tr (hFx.mono (fun lb j h => by simp only [pX, pP] at h ⊢; omega))
                    have hMr : MP iv166 B n (rdWhen B n tab.1 tab.2.1 fs t3).1 (rdWhen B n tab.1 tab.2.1 fs t3).2.2 := hM
                    have hM := hMr
                    obtain ⟨-, -, -, -, -, hb166⟩ := hM.b
                    refine lv_aload_n hE.1 hE.2.1 dX11_readProgram_169 rfl (lv_at hl 0 rfl) ?_
                    refine rm_geti hE hH hG fl_X11_131 rfl (v := nI ((rdWhen B n tab.1 tab.2.1 fs t3).1)) (hM.2.2.2.1) dX11_readProgram_170 ?_
                    refine rn_if_ne (tgt := 179) hE dX11_readProgram_173 (by decide) (by omega) (fun c173 => ?_) (fun c173 => ?_)
                    · have hl : lv_has ls 5 [(0, .ref (G.ad 0)), (1, .int (nI P)), (2, .int (nI T)), (3, .int (nI ws.length))] := by first | exact hl | (rw [List.length_append]; exact hl)
                      refine lv_goto (tgt := 11) hE.1 hE.2.1 dX11_readProgram_179 (by decide) ?_
                      exact ih11 (iv166, (rdWhen B n tab.1 tab.2.1 fs t3).1, fs, ws, (rdWhen B n tab.1 tab.2.1 fs t3).2.2) _ _ _ (show (if _ then _ else _) < (if _ then _ else _) by rw [if_neg c173, if_pos rfl]; omega) ⟨hM, hFr, fun h => absurd h c173, fun _ => ⟨h40, by rw [← hrw, if_pos c173]; exact ⟨rfl, rfl⟩⟩⟩ (lv_sub hl [0, 1, 2, 3] rfl) hH
                    · rw [if_neg (by simp [c173])] at hrw
                      rw [c173] at hM
                      have hok := hok c173
                      have hv0 : (rdV B n tab.2.1 (ndK B n (rdTs B n tab.1 (200 - fs.length) fs t3).1 (rdTs B n tab.1 (200 - fs.length) fs t3).2.2 24).1 (ndK B n (rdTs B n tab.1 (200 - fs.length) fs t3).1 (rdTs B n tab.1 (200 - fs.length) fs t3).2.2 24).2).1 = 0 := nd_0 (show (nd B n _ _ 59).1 = 0 from c173)
                      have ha0 : (ndK B n (rdTs B n tab.1 (200 - fs.length) fs t3).1 (rdTs B n tab.1 (200 - fs.length) fs t3).2.2 24).1 = 0 := rdV_0 hv0
                      have hq0 : (rdTs B n tab.1 (200 - fs.length) fs t3).1 = 0 := (ndK_pos ha0).1
                      obtain ⟨h22, hT⟩ := hz3 hq0
                      have hFy : Fr iv6 iv166 (fun lb j => (lb = 0 ∧ 29 ≤ j ∧ j ≤ 36 ∧ j ≠ 30) ∨ (lb = 18 ∧ j = 41 * P + ws.length)) := (Fr.up (hF159.mono (fun _ _ h => Or.inl h)) (Or.inr ⟨rfl, rfl⟩)).tr (hF166.mono (fun _ _ h => Or.inl h))
                      have h22 : iv166 0 22 = nI (rdWhen B n tab.1 tab.2.1 fs t3).2.1.1.length := (hFy 0 22 (by simp)).trans h22
                      have hT : TST iv166 P (rdWhen B n tab.1 tab.2.1 fs t3).2.1.1 := hT.fr hFy (fun lb j h _ _ => by omega)
                      have hW1 := hW1.fr hFx (fun lb j h _ _ => by simp only [pX]; omega)
                      have h19 : iv166 19 (41 * P + ws.length) = nI fs.length := (hFx 19 _ (by simp)).trans h19
                      have h18 : iv166 18 (41 * P + ws.length) = nI (rdWhen B n tab.1 tab.2.1 fs t3).2.1.2 := (hF166 18 _ (by simp)).trans (up2_s.trans (hrv159 hv0))
                      have hW2 := WST.add hW1 h19 h18
                      refine lv_iinc (v := nI (ws.length + 1)) (lv' := [(3, .int (nI (ws.length + 1))), (0, .ref (G.ad 0)), (1, .int (nI P)), (2, .int (nI T))]) hE.1 hE.2.1 dX11_readProgram_176 hl (k := 3) rfl (nI_1 _) (by decide) rfl (fun ls hl => ?_)
                      have hl : lv_has ls 5 [(3, .int (nI ((ws ++ [(fs.length, (rdWhen B n tab.1 tab.2.1 fs t3).2.1.2)]).length))), (0, .ref (G.ad 0)), (1, .int (nI P)), (2, .int (nI T))] := by first | exact hl | (rw [List.length_append]; exact hl)
                      refine lv_goto (tgt := 11) hE.1 hE.2.1 dX11_readProgram_179 (by decide) ?_
                      exact ih11 (iv166, 0, (rdWhen B n tab.1 tab.2.1 fs t3).2.1.1, ws ++ [(fs.length, (rdWhen B n tab.1 tab.2.1 fs t3).2.1.2)], (rdWhen B n tab.1 tab.2.1 fs t3).2.2) _ _ _ (show (if _ then _ else _) < (if _ then _ else _) by rw [if_pos rfl, if_pos rfl]; simp; omega) ⟨hM, hFr, fun _ => ⟨h22, hT, hW2, by simp; omega, hok.1, hok.2.1, hrw⟩, fun h => absurd rfl h⟩ (lv_sub hl [1, 2, 3, 0] rfl) hH
                  · exact J114 iv2 _ _ _ ⟨by rw [hmf c90]; exact hM, hFr, fun _ => by rw [hmf c90]; exact ⟨h22, hT⟩⟩ (lv_sub hl [0, 1, 2, 3] rfl) hH
                · obtain ⟨h6, hrt⟩ := hmt c90
                  have hTV := hM.2.2.1
                  have hlt : fs2.length < 200 := by have := (TV_b hTV).2.1; omega
                  rw [rdTs_go hlt] at hrt
                  refine lv_aload_n hE.1 hE.2.1 dX11_readProgram_93 rfl (lv_at hl 0 rfl) ?_
                  refine rg_VV (As := []) (rest := []) hE hml hH mc_X11_172 (c_step l z G hG iv2 jv B n (te t4) hM.1 (TV_b hM.2.2.1).2.1 hM.2.1.1) hG.1.1 hG.1.2 (by decide) rfl ⟨Nat.le_of_ble_eq_true rfl, Nat.le_of_ble_eq_true rfl⟩ rfl hl.1 (by simp [Value.category]) dX11_readProgram_94 ⟨Nat.le_of_ble_eq_true rfl, Nat.le_of_ble_eq_true rfl⟩ (fun G94 iv94 jv94 H locs hp94 hH => ?_)
                  obtain ⟨rfl, rfl, hTR94, hF94⟩ := hp94
                  have hM := MP.step hM hTR94 hF94
                  have hFr := hFr.tr ((pS_pQ hF94).mono (fun _ _ h => Or.inl h))
                  have h22 : iv94 0 22 = nI fs2.length := (hF94 0 22 (by decide)).trans h22
                  have hT := hT.fr hF94 (fun lb j h _ _ => by simp only [pS]; omega)
                  refine lv_aload_n hE.1 hE.2.1 dX11_readProgram_97 rfl (lv_at hl 0 rfl) ?_
                  refine lv_iload_n hE.1 hE.2.1 dX11_readProgram_98 rfl (lv_at hl 1 rfl) ?_
                  refine lv_iload_n hE.1 hE.2.1 dX11_readProgram_99 rfl (lv_at hl 2 rfl) ?_
                  refine rg_VV (As := [.int (nI P), .int (nI T)]) (rest := []) hE hml hH mc_X11_227 (c_readTest l z G hG iv94 jv B n (nx B n t4) hM T P hT6 hP tab (INS.f2 (INS.f2 hB hFo (fun lb j h => by simp only [pP] at h; omega)) hFr (fun lb j h => by simp only [pX] at h; omega)) hW fs2 hlt h22) hG.1.1 hG.1.2 (by decide) rfl ⟨Nat.le_of_ble_eq_true rfl, Nat.le_of_ble_eq_true rfl⟩ rfl hl.1 (by simp [Value.category]) dX11_readProgram_100 ⟨Nat.le_of_ble_eq_true rfl, Nat.le_of_ble_eq_true rfl⟩ (fun G100 iv100 jv100 H locs hp100 hH => ?_)
                  obtain ⟨rfl, rfl, ⟨hM, hrt100⟩, hF100⟩ := hp100
                  have hFr := hFr.tr (hF100.mono (P' := pX P) (fun lb j h => by simp only [pX]; omega))
                  have hT2 := hT.fr hF100 (fun lb j h _ _ => by omega)
                  obtain ⟨-, -, -, -, -, hb100⟩ := hM.b
                  refine lv_aload_n hE.1 hE.2.1 dX11_readProgram_103 rfl (lv_at hl 0 rfl) ?_
                  refine rs_ldc (i := 23) hE (by decide) rfl rfl dX11_readProgram_104 ?_
                  refine rg_VI (As := [.ref (z.1 23)]) (rest := []) hE hml hH mc_X11_149 (c_is l z G hG iv100 jv B n ((rdTest B n tab.1 (nx B n t4)).1) ((rdTest B n tab.1 (nx B n t4)).2.2) hM 23 (by decide)) hG.1.1 hG.1.2 (by decide) rfl ⟨Nat.le_of_ble_eq_true rfl, Nat.le_of_ble_eq_true rfl⟩ rfl hl.1 (by simp [Value.category]) dX11_readProgram_106 ⟨Nat.le_of_ble_eq_true rfl, Nat.le_of_ble_eq_true rfl⟩ (fun r106 G106 iv106 jv106 H locs hp106 hH => ?_)
                  obtain ⟨rfl, rfl, rfl, rfl⟩ := hp106
                  refine lv_istore (lv' := [(4, .int (bI (kw B ((rdTest B n tab.1 (nx B n t4)).1) ((rdTest B n tab.1 (nx B n t4)).2.2) 23))), (0, .ref (G.ad 0)), (1, .int (nI P)), (2, .int (nI T)), (3, .int (nI ws.length))]) hE.1 hE.2.1 dX11_readProgram_109 hl (by decide) rfl (fun ls hl => ?_)
                  refine lv_goto (tgt := 81) hE.1 hE.2.1 dX11_readProgram_111 (by decide) ?_
                  exact ih81 (iv100, (rdTest B n tab.1 (nx B n t4)).1, kw B (rdTest B n tab.1 (nx B n t4)).1 (rdTest B n tab.1 (nx B n t4)).2.2 23, fs2 ++ [(rdTest B n tab.1 (nx B n t4)).2.1], (rdTest B n tab.1 (nx B n t4)).2.2) _ _ _ (show (if _ then _ else _) < (if (0 : Nat) = 0 ∧ more = true then 1000 - fs2.length else 0) by rw [if_pos (show (0 : Nat) = 0 ∧ more = true from ⟨rfl, c90⟩)]; split; (rw [List.length_append, List.length_singleton]; exact Nat.sub_lt_sub_left (by omega) (Nat.lt_succ_self _)); exact Nat.sub_pos_of_lt (by omega)) ⟨hM, hFr, fun h => ⟨by rw [List.length_append]; exact (hrt100 h).1, TST.add hT2 (hrt100 h).2.1 (hrt100 h).2.2, fun hm => by
                    dsimp only at h hm ⊢
                    rw [h, kw0] at hm
                    exact ⟨by rw [List.length_append]; exact ts_step hW.1 hTV h6 h hm, by rw [← hrt, if_neg (by simp [h]), if_pos hm]⟩, fun hm => by
                    dsimp only at h hm ⊢
                    rw [h, kw0] at hm
                    rw [← hrt, if_neg (by simp [h]), if_neg (by simp [hm])]⟩, fun h => by dsimp only at h ⊢; rw [← hrt, if_pos h]; exact ⟨rfl, rfl⟩⟩ (lv_sub hl [1, 2, 3, 4, 0] rfl) hH
          · omega
        · rw [if_pos c47] at hrw
          refine lv_aload_n hE.1 hE.2.1 dX11_readProgram_50 rfl (lv_at hl 0 rfl) ?_
          refine lv_iconst (v := nI 2) hE.1 hE.2.1 dX11_readProgram_51 (by decide) ?_
          refine rg_VV (As := [.int (nI 2)]) (rest := []) hE hml hH mc_X11_168 (c_wrong l z G hG iv1 jv B n 0 t3 hM 2 (by decide)) hG.1.1 hG.1.2 (by decide) rfl ⟨Nat.le_of_ble_eq_true rfl, Nat.le_of_ble_eq_true rfl⟩ rfl hl.1 (by simp [Value.category]) dX11_readProgram_52 ⟨Nat.le_of_ble_eq_true rfl, Nat.le_of_ble_eq_true rfl⟩ (fun G52 iv52 jv52 H locs hp52 hH => ?_)
          obtain ⟨rfl, rfl, hM, hF52⟩ := hp52
          rw [if_pos rfl] at hM
          have hFr := hFr.tr (hF52.mono (fun _ _ h => Or.inl h))
          refine lv_aload_n hE.1 hE.2.1 dX11_readProgram_55 rfl (lv_at hl 0 rfl) ?_
          refine rm_geti hE hH hG fl_X11_131 rfl (v := nI 2) (hM.2.2.2.1) dX11_readProgram_56 ?_
          refine rn_if_eq (tgt := 63) hE dX11_readProgram_59 (by decide) (by omega) (fun c59 => ?_) (fun c59 => ?_)
          · omega
          · exact rg_vret hE hr hlk hH ⟨rfl, rfl, by
              have e : rdProg B n tab = (2, (fs, ws, 0), t3) := by simp only [rdProg]; rw [← hrw, if_pos (by simp)]
              rw [e]; exact ⟨hM, fun h => absurd h (by simp)⟩, hFr⟩ dX11_readProgram_62
      · rw [kw0] at c33
        rw [if_pos c33] at hrw
        refine lv_aload_n hE.1 hE.2.1 dX11_readProgram_36 rfl (lv_at hl 0 rfl) ?_
        refine lv_iconst (v := nI 1) hE.1 hE.2.1 dX11_readProgram_37 (by decide) ?_
        refine rg_VV (As := [.int (nI 1)]) (rest := []) hE hml hH mc_X11_168 (c_wrong l z G hG iv1 jv B n 0 t3 hM 1 (by decide)) hG.1.1 hG.1.2 (by decide) rfl ⟨Nat.le_of_ble_eq_true rfl, Nat.le_of_ble_eq_true rfl⟩ rfl hl.1 (by simp [Value.category]) dX11_readProgram_38 ⟨Nat.le_of_ble_eq_true rfl, Nat.le_of_ble_eq_true rfl⟩ (fun G38 iv38 jv38 H locs hp38 hH => ?_)
        obtain ⟨rfl, rfl, hM, hF38⟩ := hp38
        rw [if_pos rfl] at hM
        have hFr := hFr.tr (hF38.mono (fun _ _ h => Or.inl h))
        refine lv_goto (tgt := 55) hE.1 hE.2.1 dX11_readProgram_41 (by decide) ?_
        refine lv_aload_n hE.1 hE.2.1 dX11_readProgram_55 rfl (lv_at hl 0 rfl) ?_
        refine rm_geti hE hH hG fl_X11_131 rfl (v := nI 1) (hM.2.2.2.1) dX11_readProgram_56 ?_
        refine rn_if_eq (tgt := 63) hE dX11_readProgram_59 (by decide) (by omega) (fun c59 => ?_) (fun c59 => ?_)
        · omega
        · exact rg_vret hE hr hlk hH ⟨rfl, rfl, by
            have e : rdProg B n tab = (1, (fs, ws, 0), t3) := by simp only [rdProg]; rw [← hrw, if_pos (by simp)]
            rw [e]; exact ⟨hM, fun h => absurd h (by simp)⟩, hFr⟩ dX11_readProgram_62
