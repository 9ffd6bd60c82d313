set_option maxRecDepth 100000 in
set_option maxHeartbeats 4000000 in
theorem c_readValue (l : Launch) (z : ZK) (G : GW) (hG : isM G) (iv : IV) (jv : JV) (B : Nat → Nat) (n bad : Nat) (t : Tok) (hM : MP iv B n bad t) (T i : Nat) (hT : T < 6) (hi : i ≤ 5) (vs : List Wd) (hV : VS iv T i vs) : cI l z yX11_readValue cX11_readValue 4 (some .int) 7 148 0 0 [.ref (G.ad 0), .int (nI T), .int (nI i)] G iv jv (fun r G' iv' jv' => G = G' ∧ jv = jv' ∧ (MP iv' B n (rdV B n vs bad t).1 (rdV B n vs bad t).2.2 ∧ ((rdV B n vs bad t).1 = 0 → r = nI (rdV B n vs bad t).2.1)) ∧ Fr iv iv' pQ) := by
  intro sz
  refine rg_entry rfl (Nat.le_of_ble_eq_true rfl) ?_
  intro pq eq sq mq bq methq cq ls hE hr hlk hml hnm hl hsz hH
  have hl : lv_has ls 4 [(0, .ref (G.ad 0)), (1, .int (nI T)), (2, .int (nI i))] := hl
  obtain ⟨hbn, hbe, hen, hk3, hs256, hb4⟩ := hM.b
  have h6 := hV.2.1
  have hFr : Fr iv iv pQ := Fr.rf
  refine lv_aload_n hE.1 hE.2.1 dX11_readValue_0 rfl (lv_at hl 0 rfl) ?_
  refine rg_VI (As := []) (rest := []) hE hml hH mc_X11_186 (c_free l z G hG iv jv B n bad t hM) hG.1.1 hG.1.2 (by decide) rfl ⟨Nat.le_of_ble_eq_true rfl, Nat.le_of_ble_eq_true rfl⟩ rfl hl.1 (by simp [Value.category]) dX11_readValue_1 ⟨Nat.le_of_ble_eq_true rfl, Nat.le_of_ble_eq_true rfl⟩ (fun r1 G1 iv1 jv1 H locs hp1 hH => ?_)
  obtain ⟨rfl, rfl, rfl, hM, hF1⟩ := hp1
  have hFr := hFr.tr (hF1.mono (fun _ _ h => h))
  refine rn_ifb_ne (tgt := 9) hE dX11_readValue_4 (by decide) (fun c4 => ?_) (fun c4 => ?_)
  · obtain ⟨hb0, hf0⟩ := of_decide_eq_true c4
    subst hb0
    rw [fb, if_pos rfl, hf0] at hM
    have hV := hV.fr hF1 (by simp) (fun _ _ => by simp) (fun _ _ _ _ => by simp)
    refine lv_aload_n hE.1 hE.2.1 dX11_readValue_9 rfl (lv_at hl 0 rfl) ?_
    refine lv_iload_n hE.1 hE.2.1 dX11_readValue_10 rfl (lv_at hl 1 rfl) ?_
    refine lv_iload_n hE.1 hE.2.1 dX11_readValue_11 rfl (lv_at hl 2 rfl) ?_
    refine rg_VI (As := [.int (nI T), .int (nI i)]) (rest := []) hE hml hH mc_X11_189 (c_valueNow l z G hG iv1 jv B n 0 t hM T i hT hi vs hV) hG.1.1 hG.1.2 (by decide) rfl ⟨Nat.le_of_ble_eq_true rfl, Nat.le_of_ble_eq_true rfl⟩ rfl hl.1 (by simp [Value.category]) dX11_readValue_12 ⟨Nat.le_of_ble_eq_true rfl, Nat.le_of_ble_eq_true rfl⟩ (fun r12 G12 iv12 jv12 H locs hp12 hH => ?_)
    obtain ⟨rfl, rfl, rfl, rfl⟩ := hp12
    refine lv_istore_n (lv' := [(3, .int (oI (ixW vs (wd B t)))), (0, .ref (G.ad 0)), (1, .int (nI T)), (2, .int (nI i))]) hE.1 hE.2.1 dX11_readValue_15 rfl hl (by decide) rfl (fun ls hl => ?_)
    refine lv_iload_n hE.1 hE.2.1 dX11_readValue_16 rfl (lv_at hl 0 rfl) ?_
    refine lv_iconst (v := -1) hE.1 hE.2.1 dX11_readValue_17 (by decide) ?_
    refine lv_icmp_ne (tgt := 29) hE.1 hE.2.1 dX11_readValue_18 (by decide) (fun c18 => ?_) (fun c18 => ?_)
    · obtain ⟨v, hv⟩ : ∃ v, ixW vs (wd B t) = some v := by
        cases h : ixW vs (wd B t) with
        | none => rw [h] at c18; exact absurd rfl c18
        | some v => exact ⟨v, rfl⟩
      refine lv_aload_n hE.1 hE.2.1 dX11_readValue_29 rfl (lv_at hl 1 rfl) ?_
      refine rg_VV (As := []) (rest := []) hE hml hH mc_X11_172 (c_step l z G hG iv1 jv B n (te t) hM.1 (TV_b hM.2.2.1).2.1 hM.2.1.1) hG.1.1 hG.1.2 (by decide) rfl ⟨Nat.le_of_ble_eq_true rfl, Nat.le_of_ble_eq_true rfl⟩ rfl hl.1 (by simp [Value.category]) dX11_readValue_30 ⟨Nat.le_of_ble_eq_true rfl, Nat.le_of_ble_eq_true rfl⟩ (fun G30 iv30 jv30 H locs hp30 hH => ?_)
      obtain ⟨rfl, rfl, hTR30, hF30⟩ := hp30
      have hM := MP.step hM hTR30 hF30
      have hFr := hFr.tr ((pS_pQ hF30).mono (fun _ _ h => h))
      refine lv_iload_n hE.1 hE.2.1 dX11_readValue_33 rfl (lv_at hl 0 rfl) ?_
      exact rg_iret hE hr rfl hlk hH ⟨rfl, rfl, by rw [rdV, if_neg (by simp), if_neg (by simp [hf0]), hv]; exact ⟨hM, fun _ => rfl⟩, hFr⟩ dX11_readValue_34
    · rw [oI_m1 (fun k hk => by have := (ixW_lt hk).1; omega)] at c18
      refine lv_aload_n hE.1 hE.2.1 dX11_readValue_21 rfl (lv_at hl 1 rfl) ?_
      refine lv_iconst (v := nI 3) hE.1 hE.2.1 dX11_readValue_22 (by decide) ?_
      refine rg_VV (As := [.int (nI 3)]) (rest := []) hE hml hH mc_X11_168 (c_wrong l z G hG iv1 jv B n 0 t hM 3 (by decide)) hG.1.1 hG.1.2 (by decide) rfl ⟨Nat.le_of_ble_eq_true rfl, Nat.le_of_ble_eq_true rfl⟩ rfl hl.1 (by simp [Value.category]) dX11_readValue_23 ⟨Nat.le_of_ble_eq_true rfl, Nat.le_of_ble_eq_true rfl⟩ (fun G23 iv23 jv23 H locs hp23 hH => ?_)
      obtain ⟨rfl, rfl, hM, hF23⟩ := hp23
      rw [if_pos rfl] at hM
      have hFr := hFr.tr (hF23.mono (fun _ _ h => h))
      refine lv_goto (tgt := 33) hE.1 hE.2.1 dX11_readValue_26 (by decide) ?_
      refine lv_iload_n hE.1 hE.2.1 dX11_readValue_33 rfl (lv_at hl 0 rfl) ?_
      exact rg_iret hE hr rfl hlk hH ⟨rfl, rfl, by rw [rdV, if_neg (by simp), if_neg (by simp [hf0]), c18]; exact ⟨hM, fun h => absurd h (by simp)⟩, hFr⟩ dX11_readValue_34
  · have hne := of_decide_eq_false c4
    refine lv_iconst (v := nI 0) hE.1 hE.2.1 dX11_readValue_7 (by decide) ?_
    exact rg_iret hE hr rfl hlk hH ⟨rfl, rfl, by
      unfold rdV
      by_cases hb0 : bad = 0
      · subst hb0
        have hf : frF B t ≠ 0 := fun h => hne ⟨rfl, h⟩
        rw [fb, if_pos rfl] at hM
        rw [if_neg (by simp), if_pos hf]
        exact ⟨hM, fun h => absurd h hf⟩
      · rw [fb, if_neg hb0] at hM
        rw [if_pos hb0]
        exact ⟨hM, fun h => absurd h hb0⟩, hFr⟩ dX11_readValue_8
