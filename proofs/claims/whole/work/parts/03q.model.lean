set_option maxRecDepth 100000 in
set_option maxHeartbeats 4000000 in
theorem c_bestTerm (l : Launch) (z : ZK) (G : GW) (hG : isM G) (iv : IV) (jv : JV) (T : Nat) (hT : T < 6) (tab : Tab) (hFT : FT iv T tab) (of : Nat) (hof : of ≤ 6) (held : Nat → Bool) (hS : SRT iv tab) (hHd : HLD iv tab held) (h42 : iv 0 42 = nI (tC tab)) : cI l z yX11_bestTerm cX11_bestTerm 11 (some .int) 2 49 0 0 [.ref (G.ad 0), .int (nI T), .int (nI of)] G iv jv (fun r' G' iv' jv' => G = G' ∧ jv = jv' ∧ r' = oI (bst tab of held) ∧ HLD iv' tab (match bst tab of held with | none => held | some q => hup tab q held) ∧ Fr iv iv' (fun lb _ => lb = 37 ∨ lb = 41)) := by
  intro sz
  refine rg_entry rfl (Nat.le_of_ble_eq_true rfl) ?_
  intro pq eq sq mq bq methq cq ls hE hr hlk hml hnm hl hsz hH
  have hl : lv_has ls 11 [(0, .ref (G.ad 0)), (1, .int (nI T)), (2, .int (nI of))] := hl
  have hB := hFT.1
  have hk := hFT.2.1
  have hA := hFT.2.2
  have h8 := hB.f.1
  have h10 := hB.f.2.1
  have h9 := hB.f.2.2.1
  have h13 := hB.f.2.2.2.1
  have h14 := hB.f.2.2.2.2.1
  have hm5 := hk.2.1
  have hm1 := hk.1
  have hC := hk.2.2.2.1
  have hR40 := hk.2.2.2.2.2.2.1
  have htT8 := tT_le hk
  refine rg_join (σ := Unit) (nL := 11) (pcJ := 11) hH (fun (_u : Unit) => [(0, .ref (G.ad 0)), (1, .int (nI T)), (2, .int (nI of))]) (fun (_u : Unit) => [.int (oI (wnt of))]) (fun (_u : Unit) => G) (fun (_u : Unit) => iv) (fun (_u : Unit) => jv) (fun (_u : Unit) => True) ?_ (fun J11 => ?_)
  · rintro _u H locs ls - hl hH
    try dsimp only at hl hH
    refine lv_istore_n (lv' := [(3, .int (oI (wnt of))), (0, .ref (G.ad 0)), (1, .int (nI T)), (2, .int (nI of))]) hE.1 hE.2.1 dX11_bestTerm_11 rfl hl (by decide) rfl (fun ls hl => ?_)
    refine lv_iconst (v := -1) hE.1 hE.2.1 dX11_bestTerm_12 (by decide) ?_
    refine lv_istore (lv' := [(4, .int (-1)), (3, .int (oI (wnt of))), (0, .ref (G.ad 0)), (1, .int (nI T)), (2, .int (nI of))]) hE.1 hE.2.1 dX11_bestTerm_13 hl (by decide) rfl (fun ls hl => ?_)
    refine lv_iconst (v := nI 0) hE.1 hE.2.1 dX11_bestTerm_15 (by decide) ?_
    refine lv_istore (lv' := [(5, .int (nI 0)), (4, .int (-1)), (3, .int (oI (wnt of))), (0, .ref (G.ad 0)), (1, .int (nI T)), (2, .int (nI of))]) hE.1 hE.2.1 dX11_bestTerm_16 hl (by decide) rfl (fun ls hl => ?_)
    refine lv_iconst (v := nI 0) hE.1 hE.2.1 dX11_bestTerm_18 (by decide) ?_
    refine lv_istore (lv' := [(6, .int (nI 0)), (5, .int (nI 0)), (4, .int (-1)), (3, .int (oI (wnt of))), (0, .ref (G.ad 0)), (1, .int (nI T)), (2, .int (nI of))]) hE.1 hE.2.1 dX11_bestTerm_19 hl (by decide) rfl (fun ls hl => ?_)
    refine lv_iconst (v := nI 0) hE.1 hE.2.1 dX11_bestTerm_21 (by decide) ?_
    refine lv_istore (lv' := [(7, .int (nI 0)), (6, .int (nI 0)), (5, .int (nI 0)), (4, .int (-1)), (3, .int (oI (wnt of))), (0, .ref (G.ad 0)), (1, .int (nI T)), (2, .int (nI of))]) hE.1 hE.2.1 dX11_bestTerm_22 hl (by decide) rfl (fun ls hl => ?_)
    refine rg_loop (σ := IV × Nat) (nL := 11) (fun (u : IV × Nat) => match u with | (iv1, t) => tT tab - t) (fun (u : IV × Nat) => match u with | (iv1, t) => [(0, .ref (G.ad 0)), (1, .int (nI T)), (2, .int (nI of)), (3, .int (oI (wnt of))), (4, .int (oI (bsI tab of held t).1)), (5, .int (nI ((bsI tab of held t).2.1))), (6, .int (nI ((bsI tab of held t).2.2))), (7, .int (nI t))]) (fun (u : IV × Nat) => match u with | (iv1, t) => G) (fun (u : IV × Nat) => match u with | (iv1, t) => iv1) (fun (u : IV × Nat) => match u with | (iv1, t) => jv) (fun (u : IV × Nat) => match u with | (iv1, t) => t ≤ tT tab ∧ SRT iv1 tab ∧ HLD iv1 tab held ∧ iv1 0 42 = nI (tC tab) ∧ Fr iv iv1 (fun lb _ => lb = 37)) ?_ ((iv, 0)) ⟨Nat.zero_le _, hS, hHd, h42, Fr.rf⟩ (lv_sub hl [5, 6, 7, 4, 3, 2, 1, 0] rfl) hH
    rintro ⟨iv1, t⟩ H locs ls ⟨htT, hS, hHd, h42, hFr⟩ hl hH ih24
    try dsimp only at hl hH ih24
    try dsimp only at htT hS hHd h42 hFr
    have hdg := hS.2.1
    obtain ⟨hb1, hb2⟩ := bsI_le (tab := tab) (of := of) (held := held) t
    have hFT := FT.fr ‹FT iv T tab› hFr (fun _ _ h => by omega)
    have hB := hFT.1
    refine lv_iload hE.1 hE.2.1 dX11_bestTerm_24 (lv_at hl 7 rfl) ?_
    refine lv_aload_n hE.1 hE.2.1 dX11_bestTerm_26 rfl (lv_at hl 0 rfl) ?_
    refine lv_iload_n hE.1 hE.2.1 dX11_bestTerm_27 rfl (lv_at hl 1 rfl) ?_
    refine rg_VI (As := [.int (nI T)]) (rest := [.int (nI t)]) hE hml hH mc_X11_256 (c_terms l z G hG iv1 jv T hT tab hk hB) hG.1.1 hG.1.2 (by decide) rfl ⟨Nat.le_of_ble_eq_true rfl, Nat.le_of_ble_eq_true rfl⟩ rfl hl.1 (by simp [Value.category]) dX11_bestTerm_28 ⟨Nat.le_of_ble_eq_true rfl, Nat.le_of_ble_eq_true rfl⟩ (fun r28 G28 iv28 jv28 H locs hp28 hH => ?_)
    obtain ⟨rfl, rfl, rfl, rfl⟩ := hp28
    refine rn_icmp_ge (tgt := 166) hE dX11_bestTerm_31 (by decide) (by omega) (by omega) (fun c31 => ?_) (fun c31 => ?_)
    · have htt : t = tT tab := by omega
      have hbb : bst tab of held = (bsI tab of held t).1 := by rw [htt]; rfl
      refine lv_iload hE.1 hE.2.1 dX11_bestTerm_166 (lv_at hl 4 rfl) ?_
      refine lv_iconst (v := -1) hE.1 hE.2.1 dX11_bestTerm_168 (by decide) ?_
      refine lv_icmp_ne (tgt := 174) hE.1 hE.2.1 dX11_bestTerm_169 (by decide) (fun c169 => ?_) (fun c169 => ?_)
      · obtain ⟨q, hq⟩ : ∃ q, (bsI tab of held t).1 = some q := by
          cases h : (bsI tab of held t).1 with
          | none => rw [h] at c169; exact absurd rfl c169
          | some q => exact ⟨q, rfl⟩
        have hql := (bsI_g t q hq).1
        rw [hq] at hbb
        have hl : lv_has ls 11 [(0, .ref (G.ad 0)), (1, .int (nI T)), (2, .int (nI of)), (3, .int (oI (wnt of))), (4, .int (nI q)), (5, .int (nI ((bsI tab of held t).2.1))), (6, .int (nI ((bsI tab of held t).2.2))), (7, .int (nI t))] := by rw [hq] at hl; exact hl
        refine lv_aload_n hE.1 hE.2.1 dX11_bestTerm_174 rfl (lv_at hl 0 rfl) ?_
        refine lv_iload_n hE.1 hE.2.1 dX11_bestTerm_175 rfl (lv_at hl 1 rfl) ?_
        refine lv_iload hE.1 hE.2.1 dX11_bestTerm_176 (lv_at hl 4 rfl) ?_
        refine rg_VI (As := [.int (nI T), .int (nI q)]) (rest := []) hE hml hH mc_X11_259 (c_takeUp l z G hG iv1 jv T hT tab hk hB q (by omega)) hG.1.1 hG.1.2 (by decide) rfl ⟨Nat.le_of_ble_eq_true rfl, Nat.le_of_ble_eq_true rfl⟩ rfl hl.1 (by simp [Value.category]) dX11_bestTerm_178 ⟨Nat.le_of_ble_eq_true rfl, Nat.le_of_ble_eq_true rfl⟩ (fun r178 G178 iv178 jv178 H locs hp178 hH => ?_)
        obtain ⟨rfl, rfl, rfl, htl, hF178⟩ := hp178
        have hdg : ∀ c i, c < tC tab → i < tm tab → iv178 38 (5 * c + i) = nI (vOf (tf tab) (tm tab) c i) := fun c i hc hi => (hF178 38 _ (by simp)).trans (hdg c i hc hi)
        have hHd : HLD iv178 tab held := fun c hc => (hF178 41 _ (by simp)).trans (hHd c hc)
        have h42 : iv178 0 42 = nI (tC tab) := (hF178 0 42 (by simp)).trans h42
        have hFr : Fr iv iv178 (fun lb _ => lb = 37 ∨ lb = 41) := (hFr.mono (fun _ _ h => Or.inl h)).tr (hF178.mono (fun _ _ h => Or.inl h))
        refine lv_pop hE.1 hE.2.1 dX11_bestTerm_181 rfl ?_
        refine lv_iconst (v := nI 0) hE.1 hE.2.1 dX11_bestTerm_182 (by decide) ?_
        refine lv_istore (lv' := [(7, .int (nI 0)), (0, .ref (G.ad 0)), (1, .int (nI T)), (2, .int (nI of)), (3, .int (oI (wnt of))), (4, .int (nI q)), (5, .int (nI ((bsI tab of held t).2.1))), (6, .int (nI ((bsI tab of held t).2.2)))]) hE.1 hE.2.1 dX11_bestTerm_183 hl (by decide) rfl (fun ls hl => ?_)
        refine rg_loop (σ := IV × Nat) (nL := 11) (fun (u : IV × Nat) => match u with | (iv2, c) => tC tab - c) (fun (u : IV × Nat) => match u with | (iv2, c) => [(0, .ref (G.ad 0)), (1, .int (nI T)), (4, .int (nI q)), (7, .int (nI c))]) (fun (u : IV × Nat) => match u with | (iv2, c) => G) (fun (u : IV × Nat) => match u with | (iv2, c) => iv2) (fun (u : IV × Nat) => match u with | (iv2, c) => jv) (fun (u : IV × Nat) => match u with | (iv2, c) => c ≤ tC tab ∧ (∀ d, d < c → iv2 41 d = bI (hup tab q held d)) ∧ (∀ d, c ≤ d → d < tC tab → iv2 41 d = bI (held d)) ∧ TLS iv2 tab q ∧ (∀ c i, c < tC tab → i < tm tab → iv2 38 (5 * c + i) = nI (vOf (tf tab) (tm tab) c i)) ∧ iv2 0 42 = nI (tC tab) ∧ Fr iv iv2 (fun lb _ => lb = 37 ∨ lb = 41)) ?_ ((iv178, 0)) ⟨Nat.zero_le _, fun d hd => absurd hd (Nat.not_lt_zero d), fun d _ hd => hHd d hd, htl, hdg, h42, hFr⟩ (lv_sub hl [1, 2, 5, 0] rfl) hH
        rintro ⟨iv2, c⟩ H locs ls ⟨hcC, hlo, hhi, htl, hdg, h42, hFr⟩ hl hH ih185
        try dsimp only at hl hH ih185
        try dsimp only at hcC hlo hhi htl hdg h42 hFr
        have hFT := FT.fr ‹FT iv T tab› hFr (fun _ _ h => by omega)
        have hB := hFT.1
        refine lv_iload hE.1 hE.2.1 dX11_bestTerm_185 (lv_at hl 3 rfl) ?_
        refine lv_aload_n hE.1 hE.2.1 dX11_bestTerm_187 rfl (lv_at hl 0 rfl) ?_
        refine rm_geti hE hH hG fl_X11_266 rfl (v := nI (tC tab)) (h42) dX11_bestTerm_188 ?_
        refine rn_icmp_ge (tgt := 218) hE dX11_bestTerm_191 (by decide) (by omega) (by omega) (fun c191 => ?_) (fun c191 => ?_)
        · refine lv_iload hE.1 hE.2.1 dX11_bestTerm_218 (lv_at hl 2 rfl) ?_
          exact rg_iret hE hr rfl hlk hH ⟨rfl, rfl, by rw [hbb]; rfl, by rw [hbb]; exact fun d hd => hlo d (by omega), hFr⟩ dX11_bestTerm_220
        · refine lv_aload_n hE.1 hE.2.1 dX11_bestTerm_194 rfl (lv_at hl 0 rfl) ?_
          refine lv_iload_n hE.1 hE.2.1 dX11_bestTerm_195 rfl (lv_at hl 1 rfl) ?_
          refine lv_iload hE.1 hE.2.1 dX11_bestTerm_196 (lv_at hl 3 rfl) ?_
          refine rg_VI (As := [.int (nI T), .int (nI c)]) (rest := []) hE hml hH mc_X11_262 (c_holds l z G hG iv2 jv T hT tab hk hB q c (by omega) htl (fun i hi => hdg c i (by omega) hi)) hG.1.1 hG.1.2 (by decide) rfl ⟨Nat.le_of_ble_eq_true rfl, Nat.le_of_ble_eq_true rfl⟩ rfl hl.1 (by simp [Value.category]) dX11_bestTerm_198 ⟨Nat.le_of_ble_eq_true rfl, Nat.le_of_ble_eq_true rfl⟩ (fun r198 G198 iv198 jv198 H locs hp198 hH => ?_)
          obtain ⟨rfl, rfl, rfl, rfl⟩ := hp198
          refine rn_ifb_eq (tgt := 212) hE dX11_bestTerm_201 (by decide) (fun c201 => ?_) (fun c201 => ?_)
          · refine lv_iinc (v := nI (c + 1)) (lv' := [(7, .int (nI (c + 1))), (0, .ref (G.ad 0)), (1, .int (nI T)), (4, .int (nI q))]) hE.1 hE.2.1 dX11_bestTerm_212 hl (k := 3) rfl (nI_1 _) (by decide) rfl (fun ls hl => ?_)
            refine lv_goto (tgt := 185) hE.1 hE.2.1 dX11_bestTerm_215 (by decide) ?_
            exact ih185 (iv2, c + 1) _ _ _ (show tC tab - (c + 1) < tC tab - c by omega) ⟨by show c + 1 ≤ tC tab; omega, fun d hd => by
              dsimp only
              by_cases hdc : d = c
              · subst hdc; rw [hhi d (Nat.le_refl _) (by omega), hup, c201, Bool.or_false]
              · exact hlo d (by dsimp only at hd; omega), fun d hd hd2 => by dsimp only at hd ⊢; exact hhi d (by omega) hd2, htl, hdg, h42, hFr⟩ (lv_sub hl [1, 2, 3, 0] rfl) hH
          · refine lv_aload_n hE.1 hE.2.1 dX11_bestTerm_204 rfl (lv_at hl 0 rfl) ?_
            refine rm_getr hE hH hG fl_X11_93 rfl (by decide) dX11_bestTerm_205 ?_
            refine lv_iload hE.1 hE.2.1 dX11_bestTerm_208 (lv_at hl 3 rfl) ?_
            refine lv_iconst (v := nI 1) hE.1 hE.2.1 dX11_bestTerm_210 (by decide) ?_
            refine rm_zast hE hH hG (k := 41) (by decide) rfl (N := 400) rfl (n := c) (by omega) (v := nI 1) (w := bI true) (by decide) dX11_bestTerm_211 (fun H locs hH => ?_)
            refine lv_iinc (v := nI (c + 1)) (lv' := [(7, .int (nI (c + 1))), (0, .ref (G.ad 0)), (1, .int (nI T)), (4, .int (nI q))]) hE.1 hE.2.1 dX11_bestTerm_212 hl (k := 3) rfl (nI_1 _) (by decide) rfl (fun ls hl => ?_)
            refine lv_goto (tgt := 185) hE.1 hE.2.1 dX11_bestTerm_215 (by decide) ?_
            exact ih185 (up2 iv2 41 c (bI true), c + 1) _ _ _ (show tC tab - (c + 1) < tC tab - c by omega) ⟨by show c + 1 ≤ tC tab; omega, fun d hd => by
              dsimp only
              by_cases hdc : d = c
              · subst hdc; rw [up2_s, hup, c201, Bool.or_true]
              · rw [up2_k hdc]; exact hlo d (by dsimp only at hd; omega), fun d hd hd2 => by dsimp only at hd ⊢; rw [up2_k (by omega)]; exact hhi d (by omega) hd2, htl, hdg, h42, Fr.up hFr (Or.inr rfl)⟩ (lv_sub hl [1, 2, 3, 0] rfl) hH
      · rw [oI_m1 (fun k hk2 => by have := (bsI_g t k hk2).1; omega)] at c169
        rw [c169] at hbb
        refine lv_iconst (v := -1) hE.1 hE.2.1 dX11_bestTerm_172 (by decide) ?_
        exact rg_iret hE hr rfl hlk hH ⟨rfl, rfl, by rw [hbb]; rfl, by rw [hbb]; exact hHd, hFr.mono (fun _ _ h => Or.inl h)⟩ dX11_bestTerm_173
    · refine lv_aload_n hE.1 hE.2.1 dX11_bestTerm_34 rfl (lv_at hl 0 rfl) ?_
      refine rm_getr hE hH hG fl_X11_87 rfl (by decide) dX11_bestTerm_35 ?_
      refine lv_iload hE.1 hE.2.1 dX11_bestTerm_38 (lv_at hl 7 rfl) ?_
      refine rm_iald hE hH hG (k := 39) (by decide) rfl (N := 8000) rfl (n := t) (by omega) (v := toI tab t (tC tab)) (hS.2.2 t (by omega)) dX11_bestTerm_40 ?_
      refine lv_iload_n hE.1 hE.2.1 dX11_bestTerm_41 rfl (lv_at hl 2 rfl) ?_
      refine lv_icmp_eq (tgt := 48) hE.1 hE.2.1 dX11_bestTerm_42 (by decide) (fun c42 => ?_) (fun c42 => ?_)
      · refine lv_aload_n hE.1 hE.2.1 dX11_bestTerm_48 rfl (lv_at hl 0 rfl) ?_
        refine lv_iload_n hE.1 hE.2.1 dX11_bestTerm_49 rfl (lv_at hl 1 rfl) ?_
        refine lv_iload hE.1 hE.2.1 dX11_bestTerm_50 (lv_at hl 7 rfl) ?_
        refine rg_VI (As := [.int (nI T), .int (nI t)]) (rest := []) hE hml hH mc_X11_259 (c_takeUp l z G hG iv1 jv T hT tab hk hB t (by omega)) hG.1.1 hG.1.2 (by decide) rfl ⟨Nat.le_of_ble_eq_true rfl, Nat.le_of_ble_eq_true rfl⟩ rfl hl.1 (by simp [Value.category]) dX11_bestTerm_52 ⟨Nat.le_of_ble_eq_true rfl, Nat.le_of_ble_eq_true rfl⟩ (fun r52 G52 iv52 jv52 H locs hp52 hH => ?_)
        obtain ⟨rfl, rfl, rfl, htl, hF52⟩ := hp52
        have hS : SRT iv52 tab := ⟨fun c hc => (hF52 40 _ (by simp)).trans (hS.1 c hc), fun c i hc hi => (hF52 38 _ (by simp)).trans (hS.2.1 c i hc hi), fun t ht => (hF52 39 _ (by simp)).trans (hS.2.2 t ht)⟩
        have hHd : HLD iv52 tab held := fun c hc => (hF52 41 _ (by simp)).trans (hHd c hc)
        have h42 : iv52 0 42 = nI (tC tab) := (hF52 0 42 (by simp)).trans h42
        have hdg := hS.2.1
        have hFr := hFr.tr hF52
        have hFT := FT.fr ‹FT iv T tab› hFr (fun _ _ h => by omega)
        have hB := hFT.1
        refine lv_istore (lv' := [(8, .int (nI (tld tab t))), (0, .ref (G.ad 0)), (1, .int (nI T)), (2, .int (nI of)), (3, .int (oI (wnt of))), (4, .int (oI (bsI tab of held t).1)), (5, .int (nI ((bsI tab of held t).2.1))), (6, .int (nI ((bsI tab of held t).2.2))), (7, .int (nI t))]) hE.1 hE.2.1 dX11_bestTerm_55 hl (by decide) rfl (fun ls hl => ?_)
        refine lv_iconst (v := nI 0) hE.1 hE.2.1 dX11_bestTerm_57 (by decide) ?_
        refine lv_istore (lv' := [(9, .int (nI 0)), (8, .int (nI (tld tab t))), (0, .ref (G.ad 0)), (1, .int (nI T)), (2, .int (nI of)), (3, .int (oI (wnt of))), (4, .int (oI (bsI tab of held t).1)), (5, .int (nI ((bsI tab of held t).2.1))), (6, .int (nI ((bsI tab of held t).2.2))), (7, .int (nI t))]) hE.1 hE.2.1 dX11_bestTerm_58 hl (by decide) rfl (fun ls hl => ?_)
        refine lv_iconst (v := nI 0) hE.1 hE.2.1 dX11_bestTerm_60 (by decide) ?_
        refine lv_istore (lv' := [(10, .int (nI 0)), (9, .int (nI 0)), (8, .int (nI (tld tab t))), (0, .ref (G.ad 0)), (1, .int (nI T)), (2, .int (nI of)), (3, .int (oI (wnt of))), (4, .int (oI (bsI tab of held t).1)), (5, .int (nI ((bsI tab of held t).2.1))), (6, .int (nI ((bsI tab of held t).2.2))), (7, .int (nI t))]) hE.1 hE.2.1 dX11_bestTerm_61 hl (by decide) rfl (fun ls hl => ?_)
        refine rg_loop (σ := Nat) (nL := 11) (fun (c : Nat) => tC tab - c) (fun (c : Nat) => [(0, .ref (G.ad 0)), (1, .int (nI T)), (2, .int (nI of)), (3, .int (oI (wnt of))), (4, .int (oI (bsI tab of held t).1)), (5, .int (nI ((bsI tab of held t).2.1))), (6, .int (nI ((bsI tab of held t).2.2))), (7, .int (nI t)), (8, .int (nI (tld tab t))), (9, .int (nI (cntN (fun c => decide (ans tab c = wnt of) && !held c && hld tab t c) c))), (10, .int (nI c))]) (fun (c : Nat) => G) (fun (c : Nat) => iv52) (fun (c : Nat) => jv) (fun (c : Nat) => c ≤ tC tab) ?_ (0) (Nat.zero_le _) (lv_sub hl [3, 4, 5, 6, 7, 8, 9, 10, 2, 1, 0] rfl) hH
        rintro c H locs ls hcC hl hH ih63
        try dsimp only at hl hH ih63
        refine lv_iload hE.1 hE.2.1 dX11_bestTerm_63 (lv_at hl 10 rfl) ?_
        refine lv_aload_n hE.1 hE.2.1 dX11_bestTerm_65 rfl (lv_at hl 0 rfl) ?_
        refine rm_geti hE hH hG fl_X11_266 rfl (v := nI (tC tab)) (h42) dX11_bestTerm_66 ?_
        refine rn_icmp_ge (tgt := 119) hE dX11_bestTerm_69 (by decide) (by omega) (by omega) (fun c69 => ?_) (fun c69 => ?_)
        · have hcc : c = tC tab := by omega
          have hg : cntN (fun c => decide (ans tab c = wnt of) && !held c && hld tab t c) c = gn tab (wnt of) held t := by rw [hcc]; rfl
          have hgl : gn tab (wnt of) held t ≤ tC tab := cntN_le _
          have htl5 : tld tab t ≤ tm tab := cntN_le _
          rw [hg] at hl
          have hl : lv_has ls 11 [(0, .ref (G.ad 0)), (1, .int (nI T)), (2, .int (nI of)), (3, .int (oI (wnt of))), (4, .int (oI (bsI tab of held t).1)), (5, .int (nI ((bsI tab of held t).2.1))), (6, .int (nI ((bsI tab of held t).2.2))), (7, .int (nI t)), (8, .int (nI (tld tab t))), (9, .int (nI (gn tab (wnt of) held t))), (10, .int (nI c))] := hl
          refine lv_iload hE.1 hE.2.1 dX11_bestTerm_119 (lv_at hl 9 rfl) ?_
          refine lv_iload hE.1 hE.2.1 dX11_bestTerm_121 (lv_at hl 5 rfl) ?_
          refine rn_icmp_lt (tgt := 160) hE dX11_bestTerm_123 (by decide) (by omega) (by omega) (fun c123 => ?_) (fun c123 => ?_)
          · have hnext : bsI tab of held (t + 1) = bsI tab of held t := by rw [bsI, if_neg (fun h => h.2 (by omega))]
            have hl : lv_has ls 11 [(0, .ref (G.ad 0)), (1, .int (nI T)), (2, .int (nI of)), (3, .int (oI (wnt of))), (4, .int (oI (bsI tab of held (t + 1)).1)), (5, .int (nI ((bsI tab of held (t + 1)).2.1))), (6, .int (nI ((bsI tab of held (t + 1)).2.2))), (7, .int (nI t)), (8, .int (nI (tld tab t))), (9, .int (nI (gn tab (wnt of) held t))), (10, .int (nI c))] := by rw [hnext]; exact hl
            refine lv_iinc (v := nI (t + 1)) (lv' := [(7, .int (nI (t + 1))), (0, .ref (G.ad 0)), (1, .int (nI T)), (2, .int (nI of)), (3, .int (oI (wnt of))), (4, .int (oI (bsI tab of held (t + 1)).1)), (5, .int (nI ((bsI tab of held (t + 1)).2.1))), (6, .int (nI ((bsI tab of held (t + 1)).2.2))), (8, .int (nI (tld tab t))), (9, .int (nI (gn tab (wnt of) held t))), (10, .int (nI c))]) hE.1 hE.2.1 dX11_bestTerm_160 hl (k := 7) rfl (nI_1 _) (by decide) rfl (fun ls hl => ?_)
            refine lv_goto (tgt := 24) hE.1 hE.2.1 dX11_bestTerm_163 (by decide) ?_
            exact ih24 (iv52, t + 1) _ _ _ (show tT tab - (t + 1) < tT tab - t by omega) ⟨by show t + 1 ≤ tT tab; omega, hS, hHd, h42, hFr⟩ (lv_sub hl [1, 2, 3, 4, 5, 6, 7, 0] rfl) hH
          · refine lv_iload hE.1 hE.2.1 dX11_bestTerm_126 (lv_at hl 9 rfl) ?_
            refine rn_if_eq (tgt := 160) hE dX11_bestTerm_128 (by decide) (by omega) (fun c128 => ?_) (fun c128 => ?_)
            · have hnext : bsI tab of held (t + 1) = bsI tab of held t := by rw [bsI, if_neg (fun h => h.2 (by omega))]
              have hl : lv_has ls 11 [(0, .ref (G.ad 0)), (1, .int (nI T)), (2, .int (nI of)), (3, .int (oI (wnt of))), (4, .int (oI (bsI tab of held (t + 1)).1)), (5, .int (nI ((bsI tab of held (t + 1)).2.1))), (6, .int (nI ((bsI tab of held (t + 1)).2.2))), (7, .int (nI t)), (8, .int (nI (tld tab t))), (9, .int (nI (gn tab (wnt of) held t))), (10, .int (nI c))] := by rw [hnext]; exact hl
              refine lv_iinc (v := nI (t + 1)) (lv' := [(7, .int (nI (t + 1))), (0, .ref (G.ad 0)), (1, .int (nI T)), (2, .int (nI of)), (3, .int (oI (wnt of))), (4, .int (oI (bsI tab of held (t + 1)).1)), (5, .int (nI ((bsI tab of held (t + 1)).2.1))), (6, .int (nI ((bsI tab of held (t + 1)).2.2))), (8, .int (nI (tld tab t))), (9, .int (nI (gn tab (wnt of) held t))), (10, .int (nI c))]) hE.1 hE.2.1 dX11_bestTerm_160 hl (k := 7) rfl (nI_1 _) (by decide) rfl (fun ls hl => ?_)
              refine lv_goto (tgt := 24) hE.1 hE.2.1 dX11_bestTerm_163 (by decide) ?_
              exact ih24 (iv52, t + 1) _ _ _ (show tT tab - (t + 1) < tT tab - t by omega) ⟨by show t + 1 ≤ tT tab; omega, hS, hHd, h42, hFr⟩ (lv_sub hl [1, 2, 3, 4, 5, 6, 7, 0] rfl) hH
            · refine lv_iload hE.1 hE.2.1 dX11_bestTerm_131 (lv_at hl 9 rfl) ?_
              refine lv_iload hE.1 hE.2.1 dX11_bestTerm_133 (lv_at hl 5 rfl) ?_
              refine rn_icmp_ne (tgt := 148) hE dX11_bestTerm_135 (by decide) (by omega) (by omega) (fun c135 => ?_) (fun c135 => ?_)
              · have hnext : bsI tab of held (t + 1) = (some t, gn tab (wnt of) held t, tld tab t) := by rw [bsI, if_pos ⟨c42, by omega⟩]
                refine lv_iload hE.1 hE.2.1 dX11_bestTerm_148 (lv_at hl 7 rfl) ?_
                refine lv_istore (lv' := [(4, .int (nI t)), (0, .ref (G.ad 0)), (1, .int (nI T)), (2, .int (nI of)), (3, .int (oI (wnt of))), (5, .int (nI ((bsI tab of held t).2.1))), (6, .int (nI ((bsI tab of held t).2.2))), (7, .int (nI t)), (8, .int (nI (tld tab t))), (9, .int (nI (gn tab (wnt of) held t))), (10, .int (nI c))]) hE.1 hE.2.1 dX11_bestTerm_150 hl (by decide) rfl (fun ls hl => ?_)
                refine lv_iload hE.1 hE.2.1 dX11_bestTerm_152 (lv_at hl 9 rfl) ?_
                refine lv_istore (lv' := [(5, .int (nI (gn tab (wnt of) held t))), (4, .int (nI t)), (0, .ref (G.ad 0)), (1, .int (nI T)), (2, .int (nI of)), (3, .int (oI (wnt of))), (6, .int (nI ((bsI tab of held t).2.2))), (7, .int (nI t)), (8, .int (nI (tld tab t))), (9, .int (nI (gn tab (wnt of) held t))), (10, .int (nI c))]) hE.1 hE.2.1 dX11_bestTerm_154 hl (by decide) rfl (fun ls hl => ?_)
                refine lv_iload hE.1 hE.2.1 dX11_bestTerm_156 (lv_at hl 8 rfl) ?_
                refine lv_istore (lv' := [(6, .int (nI (tld tab t))), (5, .int (nI (gn tab (wnt of) held t))), (4, .int (nI t)), (0, .ref (G.ad 0)), (1, .int (nI T)), (2, .int (nI of)), (3, .int (oI (wnt of))), (7, .int (nI t)), (8, .int (nI (tld tab t))), (9, .int (nI (gn tab (wnt of) held t))), (10, .int (nI c))]) hE.1 hE.2.1 dX11_bestTerm_158 hl (by decide) rfl (fun ls hl => ?_)
                have hl : lv_has ls 11 [(6, .int (nI ((bsI tab of held (t + 1)).2.2))), (5, .int (nI ((bsI tab of held (t + 1)).2.1))), (4, .int (oI (bsI tab of held (t + 1)).1)), (0, .ref (G.ad 0)), (1, .int (nI T)), (2, .int (nI of)), (3, .int (oI (wnt of))), (7, .int (nI t)), (8, .int (nI (tld tab t))), (9, .int (nI (gn tab (wnt of) held t))), (10, .int (nI c))] := by rw [hnext]; exact hl
                refine lv_iinc (v := nI (t + 1)) (lv' := [(7, .int (nI (t + 1))), (6, .int (nI ((bsI tab of held (t + 1)).2.2))), (5, .int (nI ((bsI tab of held (t + 1)).2.1))), (4, .int (oI (bsI tab of held (t + 1)).1)), (0, .ref (G.ad 0)), (1, .int (nI T)), (2, .int (nI of)), (3, .int (oI (wnt of))), (8, .int (nI (tld tab t))), (9, .int (nI (gn tab (wnt of) held t))), (10, .int (nI c))]) hE.1 hE.2.1 dX11_bestTerm_160 hl (k := 7) rfl (nI_1 _) (by decide) rfl (fun ls hl => ?_)
                refine lv_goto (tgt := 24) hE.1 hE.2.1 dX11_bestTerm_163 (by decide) ?_
                exact ih24 (iv52, t + 1) _ _ _ (show tT tab - (t + 1) < tT tab - t by omega) ⟨by show t + 1 ≤ tT tab; omega, hS, hHd, h42, hFr⟩ (lv_sub hl [4, 5, 6, 7, 3, 2, 1, 0] rfl) hH
              · refine lv_iload hE.1 hE.2.1 dX11_bestTerm_138 (lv_at hl 8 rfl) ?_
                refine lv_iload hE.1 hE.2.1 dX11_bestTerm_140 (lv_at hl 6 rfl) ?_
                refine rn_icmp_lt (tgt := 148) hE dX11_bestTerm_142 (by decide) (by omega) (by omega) (fun c142 => ?_) (fun c142 => ?_)
                · have hnext : bsI tab of held (t + 1) = (some t, gn tab (wnt of) held t, tld tab t) := by rw [bsI, if_pos ⟨c42, by omega⟩]
                  refine lv_iload hE.1 hE.2.1 dX11_bestTerm_148 (lv_at hl 7 rfl) ?_
                  refine lv_istore (lv' := [(4, .int (nI t)), (0, .ref (G.ad 0)), (1, .int (nI T)), (2, .int (nI of)), (3, .int (oI (wnt of))), (5, .int (nI ((bsI tab of held t).2.1))), (6, .int (nI ((bsI tab of held t).2.2))), (7, .int (nI t)), (8, .int (nI (tld tab t))), (9, .int (nI (gn tab (wnt of) held t))), (10, .int (nI c))]) hE.1 hE.2.1 dX11_bestTerm_150 hl (by decide) rfl (fun ls hl => ?_)
                  refine lv_iload hE.1 hE.2.1 dX11_bestTerm_152 (lv_at hl 9 rfl) ?_
                  refine lv_istore (lv' := [(5, .int (nI (gn tab (wnt of) held t))), (4, .int (nI t)), (0, .ref (G.ad 0)), (1, .int (nI T)), (2, .int (nI of)), (3, .int (oI (wnt of))), (6, .int (nI ((bsI tab of held t).2.2))), (7, .int (nI t)), (8, .int (nI (tld tab t))), (9, .int (nI (gn tab (wnt of) held t))), (10, .int (nI c))]) hE.1 hE.2.1 dX11_bestTerm_154 hl (by decide) rfl (fun ls hl => ?_)
                  refine lv_iload hE.1 hE.2.1 dX11_bestTerm_156 (lv_at hl 8 rfl) ?_
                  refine lv_istore (lv' := [(6, .int (nI (tld tab t))), (5, .int (nI (gn tab (wnt of) held t))), (4, .int (nI t)), (0, .ref (G.ad 0)), (1, .int (nI T)), (2, .int (nI of)), (3, .int (oI (wnt of))), (7, .int (nI t)), (8, .int (nI (tld tab t))), (9, .int (nI (gn tab (wnt of) held t))), (10, .int (nI c))]) hE.1 hE.2.1 dX11_bestTerm_158 hl (by decide) rfl (fun ls hl => ?_)
                  have hl : lv_has ls 11 [(6, .int (nI ((bsI tab of held (t + 1)).2.2))), (5, .int (nI ((bsI tab of held (t + 1)).2.1))), (4, .int (oI (bsI tab of held (t + 1)).1)), (0, .ref (G.ad 0)), (1, .int (nI T)), (2, .int (nI of)), (3, .int (oI (wnt of))), (7, .int (nI t)), (8, .int (nI (tld tab t))), (9, .int (nI (gn tab (wnt of) held t))), (10, .int (nI c))] := by rw [hnext]; exact hl
                  refine lv_iinc (v := nI (t + 1)) (lv' := [(7, .int (nI (t + 1))), (6, .int (nI ((bsI tab of held (t + 1)).2.2))), (5, .int (nI ((bsI tab of held (t + 1)).2.1))), (4, .int (oI (bsI tab of held (t + 1)).1)), (0, .ref (G.ad 0)), (1, .int (nI T)), (2, .int (nI of)), (3, .int (oI (wnt of))), (8, .int (nI (tld tab t))), (9, .int (nI (gn tab (wnt of) held t))), (10, .int (nI c))]) hE.1 hE.2.1 dX11_bestTerm_160 hl (k := 7) rfl (nI_1 _) (by decide) rfl (fun ls hl => ?_)
                  refine lv_goto (tgt := 24) hE.1 hE.2.1 dX11_bestTerm_163 (by decide) ?_
                  exact ih24 (iv52, t + 1) _ _ _ (show tT tab - (t + 1) < tT tab - t by omega) ⟨by show t + 1 ≤ tT tab; omega, hS, hHd, h42, hFr⟩ (lv_sub hl [4, 5, 6, 7, 3, 2, 1, 0] rfl) hH
                · have hnext : bsI tab of held (t + 1) = bsI tab of held t := by rw [bsI, if_neg (fun h => h.2 (by omega))]
                  refine lv_goto (tgt := 160) hE.1 hE.2.1 dX11_bestTerm_145 (by decide) ?_
                  have hl : lv_has ls 11 [(0, .ref (G.ad 0)), (1, .int (nI T)), (2, .int (nI of)), (3, .int (oI (wnt of))), (4, .int (oI (bsI tab of held (t + 1)).1)), (5, .int (nI ((bsI tab of held (t + 1)).2.1))), (6, .int (nI ((bsI tab of held (t + 1)).2.2))), (7, .int (nI t)), (8, .int (nI (tld tab t))), (9, .int (nI (gn tab (wnt of) held t))), (10, .int (nI c))] := by rw [hnext]; exact hl
                  refine lv_iinc (v := nI (t + 1)) (lv' := [(7, .int (nI (t + 1))), (0, .ref (G.ad 0)), (1, .int (nI T)), (2, .int (nI of)), (3, .int (oI (wnt of))), (4, .int (oI (bsI tab of held (t + 1)).1)), (5, .int (nI ((bsI tab of held (t + 1)).2.1))), (6, .int (nI ((bsI tab of held (t + 1)).2.2))), (8, .int (nI (tld tab t))), (9, .int (nI (gn tab (wnt of) held t))), (10, .int (nI c))]) hE.1 hE.2.1 dX11_bestTerm_160 hl (k := 7) rfl (nI_1 _) (by decide) rfl (fun ls hl => ?_)
                  refine lv_goto (tgt := 24) hE.1 hE.2.1 dX11_bestTerm_163 (by decide) ?_
                  exact ih24 (iv52, t + 1) _ _ _ (show tT tab - (t + 1) < tT tab - t by omega) ⟨by show t + 1 ≤ tT tab; omega, hS, hHd, h42, hFr⟩ (lv_sub hl [1, 2, 3, 4, 5, 6, 7, 0] rfl) hH
        · refine lv_iload hE.1 hE.2.1 dX11_bestTerm_72 (lv_at hl 9 rfl) ?_
          refine lv_aload_n hE.1 hE.2.1 dX11_bestTerm_74 rfl (lv_at hl 0 rfl) ?_
          refine rm_getr hE hH hG fl_X11_90 rfl (by decide) dX11_bestTerm_75 ?_
          refine lv_iload hE.1 hE.2.1 dX11_bestTerm_78 (lv_at hl 10 rfl) ?_
          refine rm_iald hE hH hG (k := 40) (by decide) rfl (N := 400) rfl (n := c) (by omega) (v := oI (ans tab c)) (hS.1 c (by omega)) dX11_bestTerm_80 ?_
          refine lv_iload_n hE.1 hE.2.1 dX11_bestTerm_81 rfl (lv_at hl 3 rfl) ?_
          refine lv_icmp_ne (tgt := 109) hE.1 hE.2.1 dX11_bestTerm_82 (by decide) (fun c82 => ?_) (fun c82 => ?_)
          · rw [oI_inj (ans_s hk) (fun k hk2 => by unfold wnt at hk2; split at hk2; cases hk2; cases hk2; omega)] at c82
            refine lv_iconst (v := nI 0) hE.1 hE.2.1 dX11_bestTerm_109 (by decide) ?_
            refine rn_iadd hE dX11_bestTerm_110 ?_
            refine rn_as (v' := nI (cntN (fun c => decide (ans tab c = wnt of) && !held c && hld tab t c) (c + 1))) (by rw [cntN, if_neg (by simp [c82])]) ?_
            refine lv_istore (lv' := [(9, .int (nI (cntN (fun c => decide (ans tab c = wnt of) && !held c && hld tab t c) (c + 1)))), (0, .ref (G.ad 0)), (1, .int (nI T)), (2, .int (nI of)), (3, .int (oI (wnt of))), (4, .int (oI (bsI tab of held t).1)), (5, .int (nI ((bsI tab of held t).2.1))), (6, .int (nI ((bsI tab of held t).2.2))), (7, .int (nI t)), (8, .int (nI (tld tab t))), (10, .int (nI c))]) hE.1 hE.2.1 dX11_bestTerm_111 hl (by decide) rfl (fun ls hl => ?_)
            refine lv_iinc (v := nI (c + 1)) (lv' := [(10, .int (nI (c + 1))), (9, .int (nI (cntN (fun c => decide (ans tab c = wnt of) && !held c && hld tab t c) (c + 1)))), (0, .ref (G.ad 0)), (1, .int (nI T)), (2, .int (nI of)), (3, .int (oI (wnt of))), (4, .int (oI (bsI tab of held t).1)), (5, .int (nI ((bsI tab of held t).2.1))), (6, .int (nI ((bsI tab of held t).2.2))), (7, .int (nI t)), (8, .int (nI (tld tab t)))]) hE.1 hE.2.1 dX11_bestTerm_113 hl (k := 10) rfl (nI_1 _) (by decide) rfl (fun ls hl => ?_)
            refine lv_goto (tgt := 63) hE.1 hE.2.1 dX11_bestTerm_116 (by decide) ?_
            exact ih63 (c + 1) _ _ _ (by omega) (by omega) (lv_sub hl [2, 3, 4, 5, 6, 7, 8, 9, 10, 1, 0] rfl) hH
          · rw [oI_inj (ans_s hk) (fun k hk2 => by unfold wnt at hk2; split at hk2; cases hk2; cases hk2; omega)] at c82
            refine lv_aload_n hE.1 hE.2.1 dX11_bestTerm_85 rfl (lv_at hl 0 rfl) ?_
            refine rm_getr hE hH hG fl_X11_93 rfl (by decide) dX11_bestTerm_86 ?_
            refine lv_iload hE.1 hE.2.1 dX11_bestTerm_89 (lv_at hl 10 rfl) ?_
            refine rm_zald hE hH hG (k := 41) (by decide) rfl (N := 400) rfl (n := c) (by omega) (v := bI (held c)) (hHd c (by omega)) dX11_bestTerm_91 ?_
            refine rn_ifb_ne (tgt := 109) hE dX11_bestTerm_92 (by decide) (fun c92 => ?_) (fun c92 => ?_)
            · refine lv_iconst (v := nI 0) hE.1 hE.2.1 dX11_bestTerm_109 (by decide) ?_
              refine rn_iadd hE dX11_bestTerm_110 ?_
              refine rn_as (v' := nI (cntN (fun c => decide (ans tab c = wnt of) && !held c && hld tab t c) (c + 1))) (by rw [cntN, if_neg (by simp [c92])]) ?_
              refine lv_istore (lv' := [(9, .int (nI (cntN (fun c => decide (ans tab c = wnt of) && !held c && hld tab t c) (c + 1)))), (0, .ref (G.ad 0)), (1, .int (nI T)), (2, .int (nI of)), (3, .int (oI (wnt of))), (4, .int (oI (bsI tab of held t).1)), (5, .int (nI ((bsI tab of held t).2.1))), (6, .int (nI ((bsI tab of held t).2.2))), (7, .int (nI t)), (8, .int (nI (tld tab t))), (10, .int (nI c))]) hE.1 hE.2.1 dX11_bestTerm_111 hl (by decide) rfl (fun ls hl => ?_)
              refine lv_iinc (v := nI (c + 1)) (lv' := [(10, .int (nI (c + 1))), (9, .int (nI (cntN (fun c => decide (ans tab c = wnt of) && !held c && hld tab t c) (c + 1)))), (0, .ref (G.ad 0)), (1, .int (nI T)), (2, .int (nI of)), (3, .int (oI (wnt of))), (4, .int (oI (bsI tab of held t).1)), (5, .int (nI ((bsI tab of held t).2.1))), (6, .int (nI ((bsI tab of held t).2.2))), (7, .int (nI t)), (8, .int (nI (tld tab t)))]) hE.1 hE.2.1 dX11_bestTerm_113 hl (k := 10) rfl (nI_1 _) (by decide) rfl (fun ls hl => ?_)
              refine lv_goto (tgt := 63) hE.1 hE.2.1 dX11_bestTerm_116 (by decide) ?_
              exact ih63 (c + 1) _ _ _ (by omega) (by omega) (lv_sub hl [2, 3, 4, 5, 6, 7, 8, 9, 10, 1, 0] rfl) hH
            · refine lv_aload_n hE.1 hE.2.1 dX11_bestTerm_95 rfl (lv_at hl 0 rfl) ?_
              refine lv_iload_n hE.1 hE.2.1 dX11_bestTerm_96 rfl (lv_at hl 1 rfl) ?_
              refine lv_iload hE.1 hE.2.1 dX11_bestTerm_97 (lv_at hl 10 rfl) ?_
              refine rg_VI (As := [.int (nI T), .int (nI c)]) (rest := [.int (nI (cntN (fun c => decide (ans tab c = wnt of) && !held c && hld tab t c) c))]) hE hml hH mc_X11_262 (c_holds l z G hG iv52 jv T hT tab hk hB t c (by omega) htl (fun i hi => hdg c i (by omega) hi)) hG.1.1 hG.1.2 (by decide) rfl ⟨Nat.le_of_ble_eq_true rfl, Nat.le_of_ble_eq_true rfl⟩ rfl hl.1 (by simp [Value.category]) dX11_bestTerm_99 ⟨Nat.le_of_ble_eq_true rfl, Nat.le_of_ble_eq_true rfl⟩ (fun r99 G99 iv99 jv99 H locs hp99 hH => ?_)
              obtain ⟨rfl, rfl, rfl, rfl⟩ := hp99
              refine rn_ifb_eq (tgt := 109) hE dX11_bestTerm_102 (by decide) (fun c102 => ?_) (fun c102 => ?_)
              · refine lv_iconst (v := nI 0) hE.1 hE.2.1 dX11_bestTerm_109 (by decide) ?_
                refine rn_iadd hE dX11_bestTerm_110 ?_
                refine rn_as (v' := nI (cntN (fun c => decide (ans tab c = wnt of) && !held c && hld tab t c) (c + 1))) (by rw [cntN, if_neg (by simp [c102])]) ?_
                refine lv_istore (lv' := [(9, .int (nI (cntN (fun c => decide (ans tab c = wnt of) && !held c && hld tab t c) (c + 1)))), (0, .ref (G.ad 0)), (1, .int (nI T)), (2, .int (nI of)), (3, .int (oI (wnt of))), (4, .int (oI (bsI tab of held t).1)), (5, .int (nI ((bsI tab of held t).2.1))), (6, .int (nI ((bsI tab of held t).2.2))), (7, .int (nI t)), (8, .int (nI (tld tab t))), (10, .int (nI c))]) hE.1 hE.2.1 dX11_bestTerm_111 hl (by decide) rfl (fun ls hl => ?_)
                refine lv_iinc (v := nI (c + 1)) (lv' := [(10, .int (nI (c + 1))), (9, .int (nI (cntN (fun c => decide (ans tab c = wnt of) && !held c && hld tab t c) (c + 1)))), (0, .ref (G.ad 0)), (1, .int (nI T)), (2, .int (nI of)), (3, .int (oI (wnt of))), (4, .int (oI (bsI tab of held t).1)), (5, .int (nI ((bsI tab of held t).2.1))), (6, .int (nI ((bsI tab of held t).2.2))), (7, .int (nI t)), (8, .int (nI (tld tab t)))]) hE.1 hE.2.1 dX11_bestTerm_113 hl (k := 10) rfl (nI_1 _) (by decide) rfl (fun ls hl => ?_)
                refine lv_goto (tgt := 63) hE.1 hE.2.1 dX11_bestTerm_116 (by decide) ?_
                exact ih63 (c + 1) _ _ _ (by omega) (by omega) (lv_sub hl [2, 3, 4, 5, 6, 7, 8, 9, 10, 1, 0] rfl) hH
              · refine lv_iconst (v := nI 1) hE.1 hE.2.1 dX11_bestTerm_105 (by decide) ?_
                refine lv_goto (tgt := 110) hE.1 hE.2.1 dX11_bestTerm_106 (by decide) ?_
                refine rn_iadd hE dX11_bestTerm_110 ?_
                refine rn_as (v' := nI (cntN (fun c => decide (ans tab c = wnt of) && !held c && hld tab t c) (c + 1))) (by rw [cntN, if_pos (by simp [c82, c92, c102])]) ?_
                refine lv_istore (lv' := [(9, .int (nI (cntN (fun c => decide (ans tab c = wnt of) && !held c && hld tab t c) (c + 1)))), (0, .ref (G.ad 0)), (1, .int (nI T)), (2, .int (nI of)), (3, .int (oI (wnt of))), (4, .int (oI (bsI tab of held t).1)), (5, .int (nI ((bsI tab of held t).2.1))), (6, .int (nI ((bsI tab of held t).2.2))), (7, .int (nI t)), (8, .int (nI (tld tab t))), (10, .int (nI c))]) hE.1 hE.2.1 dX11_bestTerm_111 hl (by decide) rfl (fun ls hl => ?_)
                refine lv_iinc (v := nI (c + 1)) (lv' := [(10, .int (nI (c + 1))), (9, .int (nI (cntN (fun c => decide (ans tab c = wnt of) && !held c && hld tab t c) (c + 1)))), (0, .ref (G.ad 0)), (1, .int (nI T)), (2, .int (nI of)), (3, .int (oI (wnt of))), (4, .int (oI (bsI tab of held t).1)), (5, .int (nI ((bsI tab of held t).2.1))), (6, .int (nI ((bsI tab of held t).2.2))), (7, .int (nI t)), (8, .int (nI (tld tab t)))]) hE.1 hE.2.1 dX11_bestTerm_113 hl (k := 10) rfl (nI_1 _) (by decide) rfl (fun ls hl => ?_)
                refine lv_goto (tgt := 63) hE.1 hE.2.1 dX11_bestTerm_116 (by decide) ?_
                exact ih63 (c + 1) _ _ _ (by omega) (by omega) (lv_sub hl [2, 3, 4, 5, 6, 7, 8, 9, 10, 1, 0] rfl) hH
      · have hnext : bsI tab of held (t + 1) = bsI tab of held t := by rw [bsI, if_neg (fun h => c42 h.1)]
        refine lv_goto (tgt := 160) hE.1 hE.2.1 dX11_bestTerm_45 (by decide) ?_
        have hl : lv_has ls 11 [(0, .ref (G.ad 0)), (1, .int (nI T)), (2, .int (nI of)), (3, .int (oI (wnt of))), (4, .int (oI (bsI tab of held (t + 1)).1)), (5, .int (nI ((bsI tab of held (t + 1)).2.1))), (6, .int (nI ((bsI tab of held (t + 1)).2.2))), (7, .int (nI t))] := by rw [hnext]; exact hl
        refine lv_iinc (v := nI (t + 1)) (lv' := [(7, .int (nI (t + 1))), (0, .ref (G.ad 0)), (1, .int (nI T)), (2, .int (nI of)), (3, .int (oI (wnt of))), (4, .int (oI (bsI tab of held (t + 1)).1)), (5, .int (nI ((bsI tab of held (t + 1)).2.1))), (6, .int (nI ((bsI tab of held (t + 1)).2.2)))]) hE.1 hE.2.1 dX11_bestTerm_160 hl (k := 7) rfl (nI_1 _) (by decide) rfl (fun ls hl => ?_)
        refine lv_goto (tgt := 24) hE.1 hE.2.1 dX11_bestTerm_163 (by decide) ?_
        exact ih24 (iv1, t + 1) _ _ _ (show tT tab - (t + 1) < tT tab - t by omega) ⟨by show t + 1 ≤ tT tab; omega, hS, hHd, h42, hFr⟩ (lv_sub hl [1, 2, 3, 4, 5, 6, 7, 0] rfl) hH
  · refine lv_iload_n hE.1 hE.2.1 dX11_bestTerm_0 rfl (lv_at hl 2 rfl) ?_
    refine lv_bipush (v := nI 6) hE.1 hE.2.1 dX11_bestTerm_1 (by decide) ?_
    refine rn_icmp_ne (tgt := 10) hE dX11_bestTerm_3 (by decide) (by omega) (by omega) (fun c3 => ?_) (fun c3 => ?_)
    · refine lv_iload_n hE.1 hE.2.1 dX11_bestTerm_10 rfl (lv_at hl 2 rfl) ?_
      refine rn_as (v' := oI (wnt of)) (by unfold wnt; rw [if_neg c3]; rfl) ?_
      exact J11 () _ _ _ trivial (lv_sub hl [0, 1, 2] rfl) hH
    · refine lv_iconst (v := -1) hE.1 hE.2.1 dX11_bestTerm_6 (by decide) ?_
      refine rn_as (v' := oI (wnt of)) (by unfold wnt; rw [if_pos c3]; rfl) ?_
      refine lv_goto (tgt := 11) hE.1 hE.2.1 dX11_bestTerm_7 (by decide) ?_
      exact J11 () _ _ _ trivial (lv_sub hl [0, 1, 2] rfl) hH
