set_option maxRecDepth 100000 in
set_option maxHeartbeats 4000000 in
theorem c_Lx_sg (l : Launch) (z : ZK) (G : GW) (iv : IV) (jv : JV) (b : Nat) (hb : b < 256) : cI l z yX2_kindOfSign cX2_kindOfSign 1 (some .int) 0 0 0 0 [.int (sbI b)] G iv jv (fun r G' iv' jv' => G = G' ∧ iv = iv' ∧ jv = jv' ∧ r = nI (sgk b)) := by
  intro sz
  refine rg_entry rfl (Nat.le_of_ble_eq_true rfl) ?_
  intro pq eq sq mq bq methq cq ls hE hr hlk hml hnm hl hsz hH
  have hl : lv_has ls 1 [(0, .int (sbI b))] := hl
  refine lv_iload_n hE.1 hE.2.1 dX2_kindOfSign_0 rfl (lv_at hl 0 rfl) ?_
  by_cases hk33 : b = 33
  · subst hk33
    refine lv_lookup (off := 57) (tgt := 58) hE.1 hE.2.1 dX2_kindOfSign_1 (by decide) (by decide +kernel) (by decide) ?_
    refine lv_bipush (v := nI 10) hE.1 hE.2.1 dX2_kindOfSign_58 (by decide) ?_
    exact rg_iret hE hr rfl hlk hH ⟨rfl, rfl, rfl, rfl⟩ dX2_kindOfSign_60
  by_cases hk42 : b = 42
  · subst hk42
    refine lv_lookup (off := 51) (tgt := 52) hE.1 hE.2.1 dX2_kindOfSign_1 (by decide) (by decide +kernel) (by decide) ?_
    refine lv_bipush (v := nI 8) hE.1 hE.2.1 dX2_kindOfSign_52 (by decide) ?_
    exact rg_iret hE hr rfl hlk hH ⟨rfl, rfl, rfl, rfl⟩ dX2_kindOfSign_54
  by_cases hk47 : b = 47
  · subst hk47
    refine lv_lookup (off := 54) (tgt := 55) hE.1 hE.2.1 dX2_kindOfSign_1 (by decide) (by decide +kernel) (by decide) ?_
    refine lv_bipush (v := nI 9) hE.1 hE.2.1 dX2_kindOfSign_55 (by decide) ?_
    exact rg_iret hE hr rfl hlk hH ⟨rfl, rfl, rfl, rfl⟩ dX2_kindOfSign_57
  by_cases hk58 : b = 58
  · subst hk58
    refine lv_lookup (off := 63) (tgt := 64) hE.1 hE.2.1 dX2_kindOfSign_1 (by decide) (by decide +kernel) (by decide) ?_
    refine lv_bipush (v := nI 12) hE.1 hE.2.1 dX2_kindOfSign_64 (by decide) ?_
    exact rg_iret hE hr rfl hlk hH ⟨rfl, rfl, rfl, rfl⟩ dX2_kindOfSign_66
  by_cases hk59 : b = 59
  · subst hk59
    refine lv_lookup (off := 60) (tgt := 61) hE.1 hE.2.1 dX2_kindOfSign_1 (by decide) (by decide +kernel) (by decide) ?_
    refine lv_bipush (v := nI 11) hE.1 hE.2.1 dX2_kindOfSign_61 (by decide) ?_
    exact rg_iret hE hr rfl hlk hH ⟨rfl, rfl, rfl, rfl⟩ dX2_kindOfSign_63
  refine lv_lookup (off := 66) (tgt := 67) hE.1 hE.2.1 dX2_kindOfSign_1 (by decide) (by rw [lv_osw (k := nI 33) (fun h => hk33 ((sb_eq _ hb 33 (by decide)).mp h)) (by decide), lv_osw (k := nI 42) (fun h => hk42 ((sb_eq _ hb 42 (by decide)).mp h)) (by decide), lv_osw (k := nI 47) (fun h => hk47 ((sb_eq _ hb 47 (by decide)).mp h)) (by decide), lv_osw (k := nI 58) (fun h => hk58 ((sb_eq _ hb 58 (by decide)).mp h)) (by decide), lv_osw (k := nI 59) (fun h => hk59 ((sb_eq _ hb 59 (by decide)).mp h)) (by decide)]; rfl) (by decide) ?_
  refine lv_bipush (v := nI 16) hE.1 hE.2.1 dX2_kindOfSign_67 (by decide) ?_
  exact rg_iret hE hr rfl hlk hH ⟨rfl, rfl, rfl, by rw [sgk_16 (by omega)]⟩ dX2_kindOfSign_69
set_option maxRecDepth 100000 in
set_option maxHeartbeats 4000000 in
theorem c_Lx_spells (l : Launch) (z : ZK) (G : GW) (iv : IV) (jv : JV) (x : Int64) (i : Nat) (hi : i < 30) : cI l z yX2_spells cX2_spells 6 (some .boolean) 4 85 0 0 [.long (x), .ref (z.1 i)] G iv jv (fun r G' iv' jv' => G = G' ∧ iv = iv' ∧ jv = jv' ∧ r = bI (decide (enc (sW i) = x))) := by
  intro sz
  refine rg_entry rfl (Nat.le_of_ble_eq_true rfl) ?_
  intro pq eq sq mq bq methq cq ls hE hr hlk hml hnm hl hsz hH
  have hl : lv_has ls 6 [(0, .long (x)), (2, .ref (z.1 i))] := hl
  have hsl := sLen_lt i
  refine lv_lconst (v := 0) hE.1 hE.2.1 dX2_spells_0 (by decide) ?_
  refine lv_lstore_n (lv' := [(3, .long (0)), (0, .long (x)), (2, .ref (z.1 i))]) hE.1 hE.2.1 dX2_spells_1 rfl hl (by decide) rfl (fun ls hl => ?_)
  have hl : lv_has ls 6 [(3, .long (Int64.ofNat (eN ((sW i).take 0)))), (0, .long (x)), (2, .ref (z.1 i))] := hl
  refine lv_iconst (v := nI 0) hE.1 hE.2.1 dX2_spells_2 (by decide) ?_
  refine lv_istore (lv' := [(5, .int (nI 0)), (3, .long (Int64.ofNat (eN ((sW i).take 0)))), (0, .long (x)), (2, .ref (z.1 i))]) hE.1 hE.2.1 dX2_spells_3 hl (by decide) rfl (fun ls hl => ?_)
  refine rg_loop (σ := Nat) (nL := 6) (fun (k : Nat) => sLen i - k) (fun (k : Nat) => [(0, .long (x)), (2, .ref (z.1 i)), (3, .long (Int64.ofNat (eN ((sW i).take k)))), (5, .int (nI k))]) (fun (k : Nat) => G) (fun (k : Nat) => iv) (fun (k : Nat) => jv) (fun (k : Nat) => k ≤ sLen i) ?_ (0) (Nat.zero_le _) (lv_sub hl [2, 3, 1, 0] rfl) hH
  rintro k H locs ls hki hl hH ih5
  try dsimp only at hl hH ih5
  refine lv_iload hE.1 hE.2.1 dX2_spells_5 (lv_at hl 3 rfl) ?_
  refine lv_aload_n hE.1 hE.2.1 dX2_spells_7 rfl (lv_at hl 1 rfl) ?_
  refine rg_XI (As := []) (rest := [.int (nI k)]) hE hml hH mc_X2_89 (c_slen l z G iv jv i hi) (rs_recv hE hH hi) rfl ⟨Nat.le_of_ble_eq_true rfl, Nat.le_of_ble_eq_true rfl⟩ rfl hl.1 (by simp [Value.category]) dX2_spells_8 ⟨Nat.le_of_ble_eq_true rfl, Nat.le_of_ble_eq_true rfl⟩ (fun rs Gs ivs jvs H locs hps hH => ?_)
  obtain ⟨rfl, rfl, rfl, rfl⟩ := hps
  refine rn_icmp_ge (tgt := 33) hE dX2_spells_11 (by decide) (by omega) (by omega) (fun c11 => ?_) (fun c11 => ?_)
  · refine lv_lload_n hE.1 hE.2.1 dX2_spells_33 rfl (lv_at hl 2 rfl) ?_
    refine lv_lload_n hE.1 hE.2.1 dX2_spells_34 rfl (lv_at hl 0 rfl) ?_
    refine lv_lcmp hE.1 hE.2.1 dX2_spells_35 ?_
    rw [List.take_of_length_le (by rw [sW_len i hi]; omega)]
    refine lv_if_ne (tgt := 43) hE.1 hE.2.1 dX2_spells_36 (by decide) (fun c36 => ?_) (fun c36 => ?_)
    · rw [lc_0] at c36
      refine lv_iconst (v := nI 0) hE.1 hE.2.1 dX2_spells_43 (by decide) ?_
      exact rg_iret hE hr (nz_0) hlk hH ⟨rfl, rfl, rfl, zero_bI (decide_eq_false c36)⟩ dX2_spells_44
    · rw [lc_0] at c36
      refine lv_iconst (v := nI 1) hE.1 hE.2.1 dX2_spells_39 (by decide) ?_
      refine lv_goto (tgt := 44) hE.1 hE.2.1 dX2_spells_40 (by decide) ?_
      exact rg_iret hE hr (nz_1) hlk hH ⟨rfl, rfl, rfl, one_bI (decide_eq_true c36)⟩ dX2_spells_44
  · refine lv_lload_n hE.1 hE.2.1 dX2_spells_14 rfl (lv_at hl 2 rfl) ?_
    refine lv_bipush (v := nI 8) hE.1 hE.2.1 dX2_spells_15 (by decide) ?_
    refine lv_lshl (v := (Int64.ofNat (eN ((sW i).take k))) <<< ((nI 8).toInt64 &&& 63)) hE.1 hE.2.1 dX2_spells_17 rfl ?_
    refine lv_aload_n hE.1 hE.2.1 dX2_spells_18 rfl (lv_at hl 1 rfl) ?_
    refine lv_iload hE.1 hE.2.1 dX2_spells_19 (lv_at hl 3 rfl) ?_
    refine rg_XI (As := [.int (nI k)]) (rest := [.long ((Int64.ofNat (eN ((sW i).take k))) <<< ((nI 8).toInt64 &&& 63))]) hE hml hH mc_X2_95 (c_scharAt l z G iv jv i k hi (by omega)) (rs_recv hE hH hi) rfl ⟨Nat.le_of_ble_eq_true rfl, Nat.le_of_ble_eq_true rfl⟩ rfl hl.1 (by simp [Value.category]) dX2_spells_21 ⟨Nat.le_of_ble_eq_true rfl, Nat.le_of_ble_eq_true rfl⟩ (fun rs Gs ivs jvs H locs hps hH => ?_)
    obtain ⟨rfl, rfl, rfl, rfl⟩ := hps
    refine lv_i2l (v := (nI (sB i k)).toInt64) hE.1 hE.2.1 dX2_spells_24 rfl ?_
    refine lv_lor hE.1 hE.2.1 dX2_spells_25 ?_
    refine rn_asj (v' := Int64.ofNat (eN ((sW i).take (k + 1)))) (by rw [enc_s (by have := (sB_ok i hi k (by omega)).2; omega), take_s (by rw [sW_len i hi]; omega), eN_app]; rfl) ?_
    refine lv_lstore_n (lv' := [(3, .long (Int64.ofNat (eN ((sW i).take (k + 1))))), (0, .long (x)), (2, .ref (z.1 i)), (5, .int (nI k))]) hE.1 hE.2.1 dX2_spells_26 rfl hl (by decide) rfl (fun ls hl => ?_)
    refine lv_iinc (v := nI (k + 1)) (lv' := [(5, .int (nI (k + 1))), (3, .long (Int64.ofNat (eN ((sW i).take (k + 1))))), (0, .long (x)), (2, .ref (z.1 i))]) hE.1 hE.2.1 dX2_spells_27 hl (k := 3) rfl (nI_1 _) (by decide) rfl (fun ls hl => ?_)
    refine lv_goto (tgt := 5) hE.1 hE.2.1 dX2_spells_30 (by decide) ?_
    exact ih5 (k + 1) _ _ _ (by omega) (by omega) (lv_sub hl [2, 3, 1, 0] rfl) hH
set_option maxRecDepth 100000 in
set_option maxHeartbeats 4000000 in
theorem c_Lx_kw (l : Launch) (z : ZK) (G : GW) (iv : IV) (jv : JV) (w : Wd) (hw : w.length ≤ 8 ∧ nz w) : cI l z yX2_kindOfWord cX2_kindOfWord 2 (some .int) 5 110 0 0 [.long (enc w)] G iv jv (fun r G' iv' jv' => G = G' ∧ iv = iv' ∧ jv = jv' ∧ r = nI (wkd w)) := by
  intro sz
  refine rg_entry rfl (Nat.le_of_ble_eq_true rfl) ?_
  intro pq eq sq mq bq methq cq ls hE hr hlk hml hnm hl hsz hH
  have hl : lv_has ls 2 [(0, .long (enc w))] := hl
  refine lv_lload_n hE.1 hE.2.1 dX2_kindOfWord_0 rfl (lv_at hl 0 rfl) ?_
  refine rs_ldc (i := 1) hE (by decide) rfl rfl dX2_kindOfWord_1 ?_
  refine rg_SI (As := [.long (enc w), .ref (z.1 1)]) (rest := []) hE hml hH mc_X2_73 (c_Lx_spells l z G iv jv (enc w) 1 (by decide)) rfl ⟨Nat.le_of_ble_eq_true rfl, Nat.le_of_ble_eq_true rfl⟩ rfl hl.1 (by simp [Value.category]) dX2_kindOfWord_3 ⟨Nat.le_of_ble_eq_true rfl, Nat.le_of_ble_eq_true rfl⟩ (fun r3 G3 iv3 jv3 H locs hp3 hH => ?_)
  obtain ⟨rfl, rfl, rfl, rfl⟩ := hp3
  refine rn_ifb_eq (tgt := 11) hE dX2_kindOfWord_6 (by decide) (fun c6 => ?_) (fun c6 => ?_)
  · rw [decide_eq_false_iff_not, enc_inj (sW_enc (by decide) (by decide)) hw, sW_kw.1] at c6
    refine lv_lload_n hE.1 hE.2.1 dX2_kindOfWord_11 rfl (lv_at hl 0 rfl) ?_
    refine rs_ldc (i := 2) hE (by decide) rfl rfl dX2_kindOfWord_12 ?_
    refine rg_SI (As := [.long (enc w), .ref (z.1 2)]) (rest := []) hE hml hH mc_X2_73 (c_Lx_spells l z G iv jv (enc w) 2 (by decide)) rfl ⟨Nat.le_of_ble_eq_true rfl, Nat.le_of_ble_eq_true rfl⟩ rfl hl.1 (by simp [Value.category]) dX2_kindOfWord_14 ⟨Nat.le_of_ble_eq_true rfl, Nat.le_of_ble_eq_true rfl⟩ (fun r14 G14 iv14 jv14 H locs hp14 hH => ?_)
    obtain ⟨rfl, rfl, rfl, rfl⟩ := hp14
    refine rn_ifb_eq (tgt := 22) hE dX2_kindOfWord_17 (by decide) (fun c17 => ?_) (fun c17 => ?_)
    · rw [decide_eq_false_iff_not, enc_inj (sW_enc (by decide) (by decide)) hw, sW_kw.2.1] at c17
      refine lv_lload_n hE.1 hE.2.1 dX2_kindOfWord_22 rfl (lv_at hl 0 rfl) ?_
      refine rs_ldc (i := 3) hE (by decide) rfl rfl dX2_kindOfWord_23 ?_
      refine rg_SI (As := [.long (enc w), .ref (z.1 3)]) (rest := []) hE hml hH mc_X2_73 (c_Lx_spells l z G iv jv (enc w) 3 (by decide)) rfl ⟨Nat.le_of_ble_eq_true rfl, Nat.le_of_ble_eq_true rfl⟩ rfl hl.1 (by simp [Value.category]) dX2_kindOfWord_25 ⟨Nat.le_of_ble_eq_true rfl, Nat.le_of_ble_eq_true rfl⟩ (fun r25 G25 iv25 jv25 H locs hp25 hH => ?_)
      obtain ⟨rfl, rfl, rfl, rfl⟩ := hp25
      refine rn_ifb_eq (tgt := 33) hE dX2_kindOfWord_28 (by decide) (fun c28 => ?_) (fun c28 => ?_)
      · rw [decide_eq_false_iff_not, enc_inj (sW_enc (by decide) (by decide)) hw, sW_kw.2.2.1] at c28
        refine lv_lload_n hE.1 hE.2.1 dX2_kindOfWord_33 rfl (lv_at hl 0 rfl) ?_
        refine rs_ldc (i := 4) hE (by decide) rfl rfl dX2_kindOfWord_34 ?_
        refine rg_SI (As := [.long (enc w), .ref (z.1 4)]) (rest := []) hE hml hH mc_X2_73 (c_Lx_spells l z G iv jv (enc w) 4 (by decide)) rfl ⟨Nat.le_of_ble_eq_true rfl, Nat.le_of_ble_eq_true rfl⟩ rfl hl.1 (by simp [Value.category]) dX2_kindOfWord_36 ⟨Nat.le_of_ble_eq_true rfl, Nat.le_of_ble_eq_true rfl⟩ (fun r36 G36 iv36 jv36 H locs hp36 hH => ?_)
        obtain ⟨rfl, rfl, rfl, rfl⟩ := hp36
        refine rn_ifb_eq (tgt := 44) hE dX2_kindOfWord_39 (by decide) (fun c39 => ?_) (fun c39 => ?_)
        · rw [decide_eq_false_iff_not, enc_inj (sW_enc (by decide) (by decide)) hw, sW_kw.2.2.2.1] at c39
          refine lv_lload_n hE.1 hE.2.1 dX2_kindOfWord_44 rfl (lv_at hl 0 rfl) ?_
          refine rs_ldc (i := 5) hE (by decide) rfl rfl dX2_kindOfWord_45 ?_
          refine rg_SI (As := [.long (enc w), .ref (z.1 5)]) (rest := []) hE hml hH mc_X2_73 (c_Lx_spells l z G iv jv (enc w) 5 (by decide)) rfl ⟨Nat.le_of_ble_eq_true rfl, Nat.le_of_ble_eq_true rfl⟩ rfl hl.1 (by simp [Value.category]) dX2_kindOfWord_47 ⟨Nat.le_of_ble_eq_true rfl, Nat.le_of_ble_eq_true rfl⟩ (fun r47 G47 iv47 jv47 H locs hp47 hH => ?_)
          obtain ⟨rfl, rfl, rfl, rfl⟩ := hp47
          refine rn_ifb_eq (tgt := 55) hE dX2_kindOfWord_50 (by decide) (fun c50 => ?_) (fun c50 => ?_)
          · rw [decide_eq_false_iff_not, enc_inj (sW_enc (by decide) (by decide)) hw, sW_kw.2.2.2.2.1] at c50
            refine lv_lload_n hE.1 hE.2.1 dX2_kindOfWord_55 rfl (lv_at hl 0 rfl) ?_
            refine rs_ldc (i := 6) hE (by decide) rfl rfl dX2_kindOfWord_56 ?_
            refine rg_SI (As := [.long (enc w), .ref (z.1 6)]) (rest := []) hE hml hH mc_X2_73 (c_Lx_spells l z G iv jv (enc w) 6 (by decide)) rfl ⟨Nat.le_of_ble_eq_true rfl, Nat.le_of_ble_eq_true rfl⟩ rfl hl.1 (by simp [Value.category]) dX2_kindOfWord_58 ⟨Nat.le_of_ble_eq_true rfl, Nat.le_of_ble_eq_true rfl⟩ (fun r58 G58 iv58 jv58 H locs hp58 hH => ?_)
            obtain ⟨rfl, rfl, rfl, rfl⟩ := hp58
            refine rn_ifb_eq (tgt := 67) hE dX2_kindOfWord_61 (by decide) (fun c61 => ?_) (fun c61 => ?_)
            · rw [decide_eq_false_iff_not, enc_inj (sW_enc (by decide) (by decide)) hw, sW_kw.2.2.2.2.2.1] at c61
              refine lv_lload_n hE.1 hE.2.1 dX2_kindOfWord_67 rfl (lv_at hl 0 rfl) ?_
              refine rs_ldc (i := 7) hE (by decide) rfl rfl dX2_kindOfWord_68 ?_
              refine rg_SI (As := [.long (enc w), .ref (z.1 7)]) (rest := []) hE hml hH mc_X2_73 (c_Lx_spells l z G iv jv (enc w) 7 (by decide)) rfl ⟨Nat.le_of_ble_eq_true rfl, Nat.le_of_ble_eq_true rfl⟩ rfl hl.1 (by simp [Value.category]) dX2_kindOfWord_70 ⟨Nat.le_of_ble_eq_true rfl, Nat.le_of_ble_eq_true rfl⟩ (fun r70 G70 iv70 jv70 H locs hp70 hH => ?_)
              obtain ⟨rfl, rfl, rfl, rfl⟩ := hp70
              refine rn_ifb_eq (tgt := 81) hE dX2_kindOfWord_73 (by decide) (fun c73 => ?_) (fun c73 => ?_)
              · rw [decide_eq_false_iff_not, enc_inj (sW_enc (by decide) (by decide)) hw, sW_kw.2.2.2.2.2.2] at c73
                refine lv_iconst (v := nI 0) hE.1 hE.2.1 dX2_kindOfWord_81 (by decide) ?_
                exact rg_iret hE hr rfl hlk hH ⟨rfl, rfl, rfl, by rw [wkd_0.mpr (by simp only [kws, List.mem_cons, List.not_mem_nil, or_false, not_or]; exact ⟨fun h => c6 h.symm, fun h => c17 h.symm, fun h => c28 h.symm, fun h => c39 h.symm, fun h => c50 h.symm, fun h => c61 h.symm, fun h => c73 h.symm⟩)]⟩ dX2_kindOfWord_82
              · rw [decide_eq_true_eq, enc_inj (sW_enc (by decide) (by decide)) hw, sW_kw.2.2.2.2.2.2] at c73
                refine lv_bipush (v := nI 7) hE.1 hE.2.1 dX2_kindOfWord_76 (by decide) ?_
                refine lv_goto (tgt := 82) hE.1 hE.2.1 dX2_kindOfWord_78 (by decide) ?_
                exact rg_iret hE hr rfl hlk hH ⟨rfl, rfl, rfl, by rw [← c73]; exact congrArg nI wkd_k.2.2.2.2.2.2.symm⟩ dX2_kindOfWord_82
            · rw [decide_eq_true_eq, enc_inj (sW_enc (by decide) (by decide)) hw, sW_kw.2.2.2.2.2.1] at c61
              refine lv_bipush (v := nI 6) hE.1 hE.2.1 dX2_kindOfWord_64 (by decide) ?_
              exact rg_iret hE hr rfl hlk hH ⟨rfl, rfl, rfl, by rw [← c61]; exact congrArg nI wkd_k.2.2.2.2.2.1.symm⟩ dX2_kindOfWord_66
          · rw [decide_eq_true_eq, enc_inj (sW_enc (by decide) (by decide)) hw, sW_kw.2.2.2.2.1] at c50
            refine lv_iconst (v := nI 5) hE.1 hE.2.1 dX2_kindOfWord_53 (by decide) ?_
            exact rg_iret hE hr rfl hlk hH ⟨rfl, rfl, rfl, by rw [← c50]; exact congrArg nI wkd_k.2.2.2.2.1.symm⟩ dX2_kindOfWord_54
        · rw [decide_eq_true_eq, enc_inj (sW_enc (by decide) (by decide)) hw, sW_kw.2.2.2.1] at c39
          refine lv_iconst (v := nI 4) hE.1 hE.2.1 dX2_kindOfWord_42 (by decide) ?_
          exact rg_iret hE hr rfl hlk hH ⟨rfl, rfl, rfl, by rw [← c39]; exact congrArg nI wkd_k.2.2.2.1.symm⟩ dX2_kindOfWord_43
      · rw [decide_eq_true_eq, enc_inj (sW_enc (by decide) (by decide)) hw, sW_kw.2.2.1] at c28
        refine lv_iconst (v := nI 3) hE.1 hE.2.1 dX2_kindOfWord_31 (by decide) ?_
        exact rg_iret hE hr rfl hlk hH ⟨rfl, rfl, rfl, by rw [← c28]; exact congrArg nI wkd_k.2.2.1.symm⟩ dX2_kindOfWord_32
    · rw [decide_eq_true_eq, enc_inj (sW_enc (by decide) (by decide)) hw, sW_kw.2.1] at c17
      refine lv_iconst (v := nI 2) hE.1 hE.2.1 dX2_kindOfWord_20 (by decide) ?_
      exact rg_iret hE hr rfl hlk hH ⟨rfl, rfl, rfl, by rw [← c17]; exact congrArg nI wkd_k.2.1.symm⟩ dX2_kindOfWord_21
  · rw [decide_eq_true_eq, enc_inj (sW_enc (by decide) (by decide)) hw, sW_kw.1] at c6
    refine lv_iconst (v := nI 1) hE.1 hE.2.1 dX2_kindOfWord_9 (by decide) ?_
    exact rg_iret hE hr rfl hlk hH ⟨rfl, rfl, rfl, by rw [← c6]; exact congrArg nI wkd_k.1.symm⟩ dX2_kindOfWord_10
set_option maxRecDepth 100000 in
set_option maxHeartbeats 4000000 in
theorem c_Lx_add (l : Launch) (z : ZK) (G : GW) (hX : isPx G) (iv : IV) (jv : JV) (k a b : Nat) (w : Int64) (hk : k < 1001) (h3 : iv 103 3 = nI k) : cV l z yX2_add cX2_add 5 none 0 0 0 0 [.ref (G.ad 103), .int (nI a), .int (nI b), .long (w)] G iv jv (fun G' iv' jv' => G = G' ∧ iv' = up2 (up2 (up2 iv 104 k (nI a)) 105 k (nI b)) 103 3 (nI (k + 1)) ∧ jv' = up2 jv 106 k w) := by
  intro sz
  refine rg_entry rfl (Nat.le_of_ble_eq_true rfl) ?_
  intro pq eq sq mq bq methq cq ls hE hr hlk hml hnm hl hsz hH
  have hl : lv_has ls 5 [(0, .ref (G.ad 103)), (1, .int (nI a)), (2, .int (nI b)), (3, .long (w))] := hl
  have hl104 : G.ln 104 = 1001 := hX.2.2.1.2.2
  have hl105 : G.ln 105 = 1001 := hX.2.2.2.1.2.2
  have hl106 : G.ln 106 = 1001 := hX.2.2.2.2.1.2.2
  have hl101 : G.ln 101 = 1000 := hX.2.2.2.2.2.1.2.2
  refine lv_aload_n hE.1 hE.2.1 dX2_add_0 rfl (lv_at hl 0 rfl) ?_
  refine rg_geti hE hH cf_X2 fl_X2_22 rfl (hX.2.1.1) (hX.2.1.2) (v := nI k) (h3) dX2_add_1 ?_
  refine lv_aload_n hE.1 hE.2.1 dX2_add_4 rfl (lv_at hl 0 rfl) ?_
  refine rg_getr hE hH cf_X2 fl_X2_9 rfl (hX.2.1.1) (hX.2.1.2) (v := 104) (hX.2.2.2.2.2.2.2.1) dX2_add_5 ?_
  refine rg_alen hE hH (hX.2.2.1.1) (hX.2.2.1.2.1) (by decide) (by decide) dX2_add_8 ?_
  rw [hl104]
  refine rn_icmp_ge (tgt := 52) hE dX2_add_9 (by decide) (by omega) (by omega) (fun c9 => ?_) (fun c9 => ?_)
  · omega
  · refine lv_aload_n hE.1 hE.2.1 dX2_add_12 rfl (lv_at hl 0 rfl) ?_
    refine rg_getr hE hH cf_X2 fl_X2_9 rfl (hX.2.1.1) (hX.2.1.2) (v := 104) (hX.2.2.2.2.2.2.2.1) dX2_add_13 ?_
    refine lv_aload_n hE.1 hE.2.1 dX2_add_16 rfl (lv_at hl 0 rfl) ?_
    refine rg_geti hE hH cf_X2 fl_X2_22 rfl (hX.2.1.1) (hX.2.1.2) (v := nI k) (h3) dX2_add_17 ?_
    refine lv_iload_n hE.1 hE.2.1 dX2_add_20 rfl (lv_at hl 1 rfl) ?_
    refine rg_iast hE hH (hX.2.2.1.1) (hX.2.2.1.2.1) (by omega) (v := nI a) dX2_add_21 (fun H locs hH => ?_)
    refine lv_aload_n hE.1 hE.2.1 dX2_add_22 rfl (lv_at hl 0 rfl) ?_
    refine rg_getr hE hH cf_X2 fl_X2_15 rfl (hX.2.1.1) (hX.2.1.2) (v := 105) (hX.2.2.2.2.2.2.2.2.1) dX2_add_23 ?_
    refine lv_aload_n hE.1 hE.2.1 dX2_add_26 rfl (lv_at hl 0 rfl) ?_
    refine rg_geti hE hH cf_X2 fl_X2_22 rfl (hX.2.1.1) (hX.2.1.2) (v := nI k) (h3) dX2_add_27 ?_
    refine lv_iload_n hE.1 hE.2.1 dX2_add_30 rfl (lv_at hl 2 rfl) ?_
    refine rg_iast hE hH (hX.2.2.2.1.1) (hX.2.2.2.1.2.1) (by omega) (v := nI b) dX2_add_31 (fun H locs hH => ?_)
    refine lv_aload_n hE.1 hE.2.1 dX2_add_32 rfl (lv_at hl 0 rfl) ?_
    refine rg_getr hE hH cf_X2 fl_X2_18 rfl (hX.2.1.1) (hX.2.1.2) (v := 106) (hX.2.2.2.2.2.2.2.2.2) dX2_add_33 ?_
    refine lv_aload_n hE.1 hE.2.1 dX2_add_36 rfl (lv_at hl 0 rfl) ?_
    refine rg_geti hE hH cf_X2 fl_X2_22 rfl (hX.2.1.1) (hX.2.1.2) (v := nI k) (h3) dX2_add_37 ?_
    refine lv_lload_n hE.1 hE.2.1 dX2_add_40 rfl (lv_at hl 3 rfl) ?_
    refine rg_last hE hH (hX.2.2.2.2.1.1) (hX.2.2.2.2.1.2.1) (by omega) (v := w) dX2_add_41 (fun H locs hH => ?_)
    refine lv_aload_n hE.1 hE.2.1 dX2_add_42 rfl (lv_at hl 0 rfl) ?_
    refine lv_dup hE.1 hE.2.1 dX2_add_43 rfl ?_
    refine rg_geti hE hH cf_X2 fl_X2_22 rfl (hX.2.1.1) (hX.2.1.2) (v := nI k) (h3) dX2_add_44 ?_
    refine lv_iconst (v := nI 1) hE.1 hE.2.1 dX2_add_47 (by decide) ?_
    refine rn_iadd hE dX2_add_48 ?_
    refine rg_puti hE hH cf_X2 fl_X2_22 rfl fn_X2_3 (hX.2.1.1) (hX.2.1.2) (v := nI (k + 1)) dX2_add_49 (fun H locs hH => ?_)
    exact rg_vret hE hr hlk hH ⟨rfl, rfl, rfl⟩ dX2_add_52
set_option maxRecDepth 100000 in
set_option maxHeartbeats 4000000 in
theorem c_Lx_next (l : Launch) (z : ZK) (G : GW) (hX : isPx G) (iv : IV) (jv : JV) (B : Nat → Nat) (n : Nat) (t : Tok) (hR : LR iv jv B n t) (hne : tk t ≠ 0) : cV l z yX2_next cX2_next 1 none 0 0 0 0 [.ref (G.ad 103)] G iv jv (fun G' iv' jv' => G = G' ∧ LR iv' jv' B n (nx B n t) ∧ Fr iv iv' (fun lb j => lb = 103 ∧ 4 ≤ j ∧ j ≤ 6) ∧ FrJ jv jv' (fun lb j => lb = 103 ∧ j = 7)) := by
  intro sz
  refine rg_entry rfl (Nat.le_of_ble_eq_true rfl) ?_
  intro pq eq sq mq bq methq cq ls hE hr hlk hml hnm hl hsz hH
  have hl : lv_has ls 1 [(0, .ref (G.ad 103))] := hl
  have hl104 : G.ln 104 = 1001 := hX.2.2.1.2.2
  have hl105 : G.ln 105 = 1001 := hX.2.2.2.1.2.2
  have hl106 : G.ln 106 = 1001 := hX.2.2.2.2.1.2.2
  have hl101 : G.ln 101 = 1000 := hX.2.2.2.2.2.1.2.2
  obtain ⟨⟨K, hK, hKe, h3, hT⟩, hn, k, hk, ht, h4, h5, h6, h7⟩ := hR
  have hkK : k < K := by
    rcases Nat.lt_or_ge k K with h | h
    · exact h
    · exfalso
      have := tkN_end hKe (k - K)
      rw [show K + (k - K) = k by omega, ht] at this
      exact hne this
  refine lv_aload_n hE.1 hE.2.1 dX2_next_0 rfl (lv_at hl 0 rfl) ?_
  refine rg_geti hE hH cf_X2 fl_X2_26 rfl (hX.2.1.1) (hX.2.1.2) (v := nI k) (h4) dX2_next_1 ?_
  refine lv_iconst (v := nI 1) hE.1 hE.2.1 dX2_next_4 (by decide) ?_
  refine rn_iadd hE dX2_next_5 ?_
  refine lv_aload_n hE.1 hE.2.1 dX2_next_6 rfl (lv_at hl 0 rfl) ?_
  refine rg_geti hE hH cf_X2 fl_X2_22 rfl (hX.2.1.1) (hX.2.1.2) (v := nI (K + 1)) (h3) dX2_next_7 ?_
  refine rn_icmp_ge (tgt := 62) hE dX2_next_10 (by decide) (by omega) (by omega) (fun c10 => ?_) (fun c10 => ?_)
  · omega
  · refine lv_aload_n hE.1 hE.2.1 dX2_next_13 rfl (lv_at hl 0 rfl) ?_
    refine lv_dup hE.1 hE.2.1 dX2_next_14 rfl ?_
    refine rg_geti hE hH cf_X2 fl_X2_26 rfl (hX.2.1.1) (hX.2.1.2) (v := nI k) (h4) dX2_next_15 ?_
    refine lv_iconst (v := nI 1) hE.1 hE.2.1 dX2_next_18 (by decide) ?_
    refine rn_iadd hE dX2_next_19 ?_
    refine rg_puti hE hH cf_X2 fl_X2_26 rfl fn_X2_4 (hX.2.1.1) (hX.2.1.2) (v := nI (k + 1)) dX2_next_20 (fun H locs hH => ?_)
    refine lv_aload_n hE.1 hE.2.1 dX2_next_23 rfl (lv_at hl 0 rfl) ?_
    refine lv_aload_n hE.1 hE.2.1 dX2_next_24 rfl (lv_at hl 0 rfl) ?_
    refine rg_getr hE hH cf_X2 fl_X2_9 rfl (hX.2.1.1) (hX.2.1.2) (v := 104) (hX.2.2.2.2.2.2.2.1) dX2_next_25 ?_
    refine lv_aload_n hE.1 hE.2.1 dX2_next_28 rfl (lv_at hl 0 rfl) ?_
    refine rg_geti hE hH cf_X2 fl_X2_26 rfl (hX.2.1.1) (hX.2.1.2) (v := nI (k + 1)) (rfl) dX2_next_29 ?_
    refine rg_iald hE hH (hX.2.2.1.1) (hX.2.2.1.2.1) (by omega) (v := nI (kdT B (nx B n t))) ((hT (k + 1) (by omega)).1.trans (by rw [← ht]; rfl)) dX2_next_32 ?_
    refine rg_puti hE hH cf_X2 fl_X2_29 rfl fn_X2_5 (hX.2.1.1) (hX.2.1.2) (v := nI (kdT B (nx B n t))) dX2_next_33 (fun H locs hH => ?_)
    refine lv_aload_n hE.1 hE.2.1 dX2_next_36 rfl (lv_at hl 0 rfl) ?_
    refine lv_aload_n hE.1 hE.2.1 dX2_next_37 rfl (lv_at hl 0 rfl) ?_
    refine rg_getr hE hH cf_X2 fl_X2_15 rfl (hX.2.1.1) (hX.2.1.2) (v := 105) (hX.2.2.2.2.2.2.2.2.1) dX2_next_38 ?_
    refine lv_aload_n hE.1 hE.2.1 dX2_next_41 rfl (lv_at hl 0 rfl) ?_
    refine rg_geti hE hH cf_X2 fl_X2_26 rfl (hX.2.1.1) (hX.2.1.2) (v := nI (k + 1)) (rfl) dX2_next_42 ?_
    refine rg_iald hE hH (hX.2.2.2.1.1) (hX.2.2.2.1.2.1) (by omega) (v := nI (tb (nx B n t))) ((hT (k + 1) (by omega)).2.1.trans (by rw [← ht]; rfl)) dX2_next_45 ?_
    refine rg_puti hE hH cf_X2 fl_X2_32 rfl fn_X2_6 (hX.2.1.1) (hX.2.1.2) (v := nI (tb (nx B n t))) dX2_next_46 (fun H locs hH => ?_)
    refine lv_aload_n hE.1 hE.2.1 dX2_next_49 rfl (lv_at hl 0 rfl) ?_
    refine lv_aload_n hE.1 hE.2.1 dX2_next_50 rfl (lv_at hl 0 rfl) ?_
    refine rg_getr hE hH cf_X2 fl_X2_18 rfl (hX.2.1.1) (hX.2.1.2) (v := 106) (hX.2.2.2.2.2.2.2.2.2) dX2_next_51 ?_
    refine lv_aload_n hE.1 hE.2.1 dX2_next_54 rfl (lv_at hl 0 rfl) ?_
    refine rg_geti hE hH cf_X2 fl_X2_26 rfl (hX.2.1.1) (hX.2.1.2) (v := nI (k + 1)) (rfl) dX2_next_55 ?_
    refine rg_lald hE hH (hX.2.2.2.2.1.1) (hX.2.2.2.2.1.2.1) (by omega) (v := encT B (nx B n t)) ((hT (k + 1) (by omega)).2.2.trans (by rw [← ht]; rfl)) dX2_next_58 ?_
    refine rg_putj hE hH cf_X2 fl_X2_35 rfl fn_X2_7 (hX.2.1.1) (hX.2.1.2) (v := encT B (nx B n t)) dX2_next_59 (fun H locs hH => ?_)
    exact rg_vret hE hr hlk hH ⟨rfl, ⟨⟨K, hK, hKe, h3, hT⟩, hn, k + 1, by omega, by rw [← ht]; rfl, rfl, rfl, rfl, rfl⟩, Fr.up (Fr.up (Fr.up Fr.rf ⟨rfl, by decide, by decide⟩) ⟨rfl, by decide, by decide⟩) ⟨rfl, by decide, by decide⟩, FrJ.up FrJ.rf ⟨rfl, rfl⟩⟩ dX2_next_62
set_option maxRecDepth 100000 in
set_option maxHeartbeats 4000000 in
theorem c_Lx_cut (l : Launch) (z : ZK) (G : GW) (hX : isPx G) (iv : IV) (jv : JV) (B : Nat → Nat) (n p k kk : Nat) (hTx : TXc iv B n) (hp : p < n) (hk : k < 1001) (h3 : iv 103 3 = nI k) (hkk : kk = if 8 < rowE (fun i => isWS (B i)) n p - p then 14 else wkd (wr B p (rowE (fun i => isWS (B i)) n p))) : cI l z yX2_cutWord cX2_cutWord 7 (some .int) 6 131 0 0 [.ref (G.ad 103), .ref (G.ad 101), .int (nI p), .int (nI n)] G iv jv (fun r G' iv' jv' => G = G' ∧ r = nI (rowE (fun i => isWS (B i)) n p) ∧ iv' = up2 (up2 (up2 iv 104 k (nI kk)) 105 k (nI p)) 103 3 (nI (k + 1)) ∧ jv' = up2 jv 106 k (Int64.ofNat (eN (wr B p (rowE (fun i => isWS (B i)) n p))))) := by
  intro sz
  refine rg_entry rfl (Nat.le_of_ble_eq_true rfl) ?_
  intro pq eq sq mq bq methq cq ls hE hr hlk hml hnm hl hsz hH
  have hl : lv_has ls 7 [(0, .ref (G.ad 103)), (1, .ref (G.ad 101)), (2, .int (nI p)), (3, .int (nI n))] := hl
  have hl104 : G.ln 104 = 1001 := hX.2.2.1.2.2
  have hl105 : G.ln 105 = 1001 := hX.2.2.2.1.2.2
  have hl106 : G.ln 106 = 1001 := hX.2.2.2.2.1.2.2
  have hl101 : G.ln 101 = 1000 := hX.2.2.2.2.2.1.2.2
  have hn1 := hTx.1
  refine lv_lconst (v := 0) hE.1 hE.2.1 dX2_cutWord_0 (by decide) ?_
  refine lv_lstore (lv' := [(4, .long (0)), (0, .ref (G.ad 103)), (1, .ref (G.ad 101)), (2, .int (nI p)), (3, .int (nI n))]) hE.1 hE.2.1 dX2_cutWord_1 hl (by decide) rfl (fun ls hl => ?_)
  have hl : lv_has ls 7 [(4, .long (Int64.ofNat (eN (wr B p p)))), (0, .ref (G.ad 103)), (1, .ref (G.ad 101)), (2, .int (nI p)), (3, .int (nI n))] := by rw [wr_0]; exact hl
  refine lv_iload_n hE.1 hE.2.1 dX2_cutWord_3 rfl (lv_at hl 3 rfl) ?_
  refine lv_istore (lv' := [(6, .int (nI p)), (4, .long (Int64.ofNat (eN (wr B p p)))), (0, .ref (G.ad 103)), (1, .ref (G.ad 101)), (2, .int (nI p)), (3, .int (nI n))]) hE.1 hE.2.1 dX2_cutWord_4 hl (by decide) rfl (fun ls hl => ?_)
  refine rg_loop (σ := Nat) (nL := 7) (fun (q : Nat) => n - q) (fun (q : Nat) => [(0, .ref (G.ad 103)), (1, .ref (G.ad 101)), (2, .int (nI p)), (3, .int (nI n)), (4, .long (Int64.ofNat (eN (wr B p q)))), (6, .int (nI q))]) (fun (q : Nat) => G) (fun (q : Nat) => iv) (fun (q : Nat) => jv) (fun (q : Nat) => p ≤ q ∧ q ≤ n ∧ (∀ j, p ≤ j → j < q → isWS (B j) = true) ∧ rowE (fun i => isWS (B i)) n q = rowE (fun i => isWS (B i)) n p) ?_ (p) ⟨Nat.le_refl _, by omega, fun j h1 h2 => by omega, rfl⟩ (lv_sub hl [2, 3, 4, 5, 1, 0] rfl) hH
  rintro q H locs ls ⟨hpq, hqn, hws, hrow⟩ hl hH ih6
  try dsimp only at hl hH ih6
  refine lv_iload hE.1 hE.2.1 dX2_cutWord_6 (lv_at hl 5 rfl) ?_
  refine lv_iload_n hE.1 hE.2.1 dX2_cutWord_8 rfl (lv_at hl 3 rfl) ?_
  refine rn_icmp_ge (tgt := 41) hE dX2_cutWord_9 (by decide) (by omega) (by omega) (fun c9 => ?_) (fun c9 => ?_)
  · have hend : rowE (fun i => isWS (B i)) n p = q := by rw [← hrow]; exact rowE_end (by omega)
    refine lv_aload_n hE.1 hE.2.1 dX2_cutWord_41 rfl (lv_at hl 0 rfl) ?_
    refine lv_iload hE.1 hE.2.1 dX2_cutWord_42 (lv_at hl 5 rfl) ?_
    refine lv_iload_n hE.1 hE.2.1 dX2_cutWord_44 rfl (lv_at hl 2 rfl) ?_
    refine rn_isub hE dX2_cutWord_45 (by omega) ?_
    refine lv_bipush (v := nI 8) hE.1 hE.2.1 dX2_cutWord_46 (by decide) ?_
    refine rn_icmp_le (tgt := 56) hE dX2_cutWord_48 (by decide) (by omega) (by omega) (fun c48 => ?_) (fun c48 => ?_)
    · have hkd : kk = wkd (wr B p q) := by rw [hkk, hend, if_neg (by omega)]
      refine lv_lload hE.1 hE.2.1 dX2_cutWord_56 (lv_at hl 4 rfl) ?_
      refine rg_SI (As := [.long (Int64.ofNat (eN (wr B p q)))]) (rest := [.ref (G.ad 103)]) hE hml hH mc_X2_67 (c_Lx_kw l z G iv jv (wr B p q) ⟨by rw [wr_len]; omega, wr_nz hws⟩) rfl ⟨Nat.le_of_ble_eq_true rfl, Nat.le_of_ble_eq_true rfl⟩ rfl hl.1 (by simp [Value.category]) dX2_cutWord_58 ⟨Nat.le_of_ble_eq_true rfl, Nat.le_of_ble_eq_true rfl⟩ (fun r58 G58 iv58 jv58 H locs hp58 hH => ?_)
      obtain ⟨rfl, rfl, rfl, rfl⟩ := hp58
      refine rn_as (v' := nI kk) (by rw [hkd]) ?_
      refine lv_iload_n hE.1 hE.2.1 dX2_cutWord_61 rfl (lv_at hl 2 rfl) ?_
      refine lv_lload hE.1 hE.2.1 dX2_cutWord_62 (lv_at hl 4 rfl) ?_
      refine rg_VV (As := [.int (nI kk), .int (nI p), .long (Int64.ofNat (eN (wr B p q)))]) (rest := []) hE hml hH mc_X2_60 (c_Lx_add l z G hX iv jv k kk p (Int64.ofNat (eN (wr B p q))) hk h3) (hX.2.1.1) (hX.2.1.2) (by decide) rfl ⟨Nat.le_of_ble_eq_true rfl, Nat.le_of_ble_eq_true rfl⟩ rfl hl.1 (by simp [Value.category]) dX2_cutWord_64 ⟨Nat.le_of_ble_eq_true rfl, Nat.le_of_ble_eq_true rfl⟩ (fun G64 iv64 jv64 H locs hp64 hH => ?_)
      obtain ⟨rfl, hiv64, hjv64⟩ := hp64
      refine lv_iload hE.1 hE.2.1 dX2_cutWord_67 (lv_at hl 5 rfl) ?_
      exact rg_iret hE hr rfl hlk hH ⟨rfl, by rw [hend], by rw [hiv64], by rw [hjv64, hend]⟩ dX2_cutWord_69
    · have hkd : kk = 14 := by rw [hkk, hend, if_pos (by omega)]
      refine lv_bipush (v := nI 14) hE.1 hE.2.1 dX2_cutWord_51 (by decide) ?_
      refine lv_goto (tgt := 61) hE.1 hE.2.1 dX2_cutWord_53 (by decide) ?_
      refine lv_iload_n hE.1 hE.2.1 dX2_cutWord_61 rfl (lv_at hl 2 rfl) ?_
      refine lv_lload hE.1 hE.2.1 dX2_cutWord_62 (lv_at hl 4 rfl) ?_
      refine rg_VV (As := [.int (nI 14), .int (nI p), .long (Int64.ofNat (eN (wr B p q)))]) (rest := []) hE hml hH mc_X2_60 (c_Lx_add l z G hX iv jv k 14 p (Int64.ofNat (eN (wr B p q))) hk h3) (hX.2.1.1) (hX.2.1.2) (by decide) rfl ⟨Nat.le_of_ble_eq_true rfl, Nat.le_of_ble_eq_true rfl⟩ rfl hl.1 (by simp [Value.category]) dX2_cutWord_64 ⟨Nat.le_of_ble_eq_true rfl, Nat.le_of_ble_eq_true rfl⟩ (fun G64 iv64 jv64 H locs hp64 hH => ?_)
      obtain ⟨rfl, hiv64, hjv64⟩ := hp64
      refine lv_iload hE.1 hE.2.1 dX2_cutWord_67 (lv_at hl 5 rfl) ?_
      exact rg_iret hE hr rfl hlk hH ⟨rfl, by rw [hend], by rw [hiv64, hkd], by rw [hjv64, hend]⟩ dX2_cutWord_69
  · refine lv_aload_n hE.1 hE.2.1 dX2_cutWord_12 rfl (lv_at hl 1 rfl) ?_
    refine lv_iload hE.1 hE.2.1 dX2_cutWord_13 (lv_at hl 5 rfl) ?_
    refine rg_bald hE hH (hX.2.2.2.2.2.1.1) (hX.2.2.2.2.2.1.2.1) (by omega) (v := sbI (B q)) (hTx.2.1 q (by omega)) dX2_cutWord_15 ?_
    refine rg_SI (As := [.int (sbI (B q))]) (rest := []) hE hml hH mc_X2_45 (c_Lx_ws l z G iv jv (sbI (B q))) rfl ⟨Nat.le_of_ble_eq_true rfl, Nat.le_of_ble_eq_true rfl⟩ rfl hl.1 (by simp [Value.category]) dX2_cutWord_16 ⟨Nat.le_of_ble_eq_true rfl, Nat.le_of_ble_eq_true rfl⟩ (fun r16 G16 iv16 jv16 H locs hp16 hH => ?_)
    obtain ⟨rfl, rfl, rfl, rfl⟩ := hp16
    refine rn_as (v' := bI (isWS (B q))) (by rw [ws_sb _ (hTx.2.2 q (by omega))]) ?_
    refine rn_ifb_eq (tgt := 41) hE dX2_cutWord_19 (by decide) (fun c19 => ?_) (fun c19 => ?_)
    · have hend : rowE (fun i => isWS (B i)) n p = q := by rw [← hrow]; exact rowE_stop c19
      refine lv_aload_n hE.1 hE.2.1 dX2_cutWord_41 rfl (lv_at hl 0 rfl) ?_
      refine lv_iload hE.1 hE.2.1 dX2_cutWord_42 (lv_at hl 5 rfl) ?_
      refine lv_iload_n hE.1 hE.2.1 dX2_cutWord_44 rfl (lv_at hl 2 rfl) ?_
      refine rn_isub hE dX2_cutWord_45 (by omega) ?_
      refine lv_bipush (v := nI 8) hE.1 hE.2.1 dX2_cutWord_46 (by decide) ?_
      refine rn_icmp_le (tgt := 56) hE dX2_cutWord_48 (by decide) (by omega) (by omega) (fun c48 => ?_) (fun c48 => ?_)
      · have hkd : kk = wkd (wr B p q) := by rw [hkk, hend, if_neg (by omega)]
        refine lv_lload hE.1 hE.2.1 dX2_cutWord_56 (lv_at hl 4 rfl) ?_
        refine rg_SI (As := [.long (Int64.ofNat (eN (wr B p q)))]) (rest := [.ref (G.ad 103)]) hE hml hH mc_X2_67 (c_Lx_kw l z G iv jv (wr B p q) ⟨by rw [wr_len]; omega, wr_nz hws⟩) rfl ⟨Nat.le_of_ble_eq_true rfl, Nat.le_of_ble_eq_true rfl⟩ rfl hl.1 (by simp [Value.category]) dX2_cutWord_58 ⟨Nat.le_of_ble_eq_true rfl, Nat.le_of_ble_eq_true rfl⟩ (fun r58 G58 iv58 jv58 H locs hp58 hH => ?_)
        obtain ⟨rfl, rfl, rfl, rfl⟩ := hp58
        refine rn_as (v' := nI kk) (by rw [hkd]) ?_
        refine lv_iload_n hE.1 hE.2.1 dX2_cutWord_61 rfl (lv_at hl 2 rfl) ?_
        refine lv_lload hE.1 hE.2.1 dX2_cutWord_62 (lv_at hl 4 rfl) ?_
        refine rg_VV (As := [.int (nI kk), .int (nI p), .long (Int64.ofNat (eN (wr B p q)))]) (rest := []) hE hml hH mc_X2_60 (c_Lx_add l z G hX iv jv k kk p (Int64.ofNat (eN (wr B p q))) hk h3) (hX.2.1.1) (hX.2.1.2) (by decide) rfl ⟨Nat.le_of_ble_eq_true rfl, Nat.le_of_ble_eq_true rfl⟩ rfl hl.1 (by simp [Value.category]) dX2_cutWord_64 ⟨Nat.le_of_ble_eq_true rfl, Nat.le_of_ble_eq_true rfl⟩ (fun G64 iv64 jv64 H locs hp64 hH => ?_)
        obtain ⟨rfl, hiv64, hjv64⟩ := hp64
        refine lv_iload hE.1 hE.2.1 dX2_cutWord_67 (lv_at hl 5 rfl) ?_
        exact rg_iret hE hr rfl hlk hH ⟨rfl, by rw [hend], by rw [hiv64], by rw [hjv64, hend]⟩ dX2_cutWord_69
      · have hkd : kk = 14 := by rw [hkk, hend, if_pos (by omega)]
        refine lv_bipush (v := nI 14) hE.1 hE.2.1 dX2_cutWord_51 (by decide) ?_
        refine lv_goto (tgt := 61) hE.1 hE.2.1 dX2_cutWord_53 (by decide) ?_
        refine lv_iload_n hE.1 hE.2.1 dX2_cutWord_61 rfl (lv_at hl 2 rfl) ?_
        refine lv_lload hE.1 hE.2.1 dX2_cutWord_62 (lv_at hl 4 rfl) ?_
        refine rg_VV (As := [.int (nI 14), .int (nI p), .long (Int64.ofNat (eN (wr B p q)))]) (rest := []) hE hml hH mc_X2_60 (c_Lx_add l z G hX iv jv k 14 p (Int64.ofNat (eN (wr B p q))) hk h3) (hX.2.1.1) (hX.2.1.2) (by decide) rfl ⟨Nat.le_of_ble_eq_true rfl, Nat.le_of_ble_eq_true rfl⟩ rfl hl.1 (by simp [Value.category]) dX2_cutWord_64 ⟨Nat.le_of_ble_eq_true rfl, Nat.le_of_ble_eq_true rfl⟩ (fun G64 iv64 jv64 H locs hp64 hH => ?_)
        obtain ⟨rfl, hiv64, hjv64⟩ := hp64
        refine lv_iload hE.1 hE.2.1 dX2_cutWord_67 (lv_at hl 5 rfl) ?_
        exact rg_iret hE hr rfl hlk hH ⟨rfl, by rw [hend], by rw [hiv64, hkd], by rw [hjv64, hend]⟩ dX2_cutWord_69
    · refine lv_lload hE.1 hE.2.1 dX2_cutWord_22 (lv_at hl 4 rfl) ?_
      refine lv_bipush (v := nI 8) hE.1 hE.2.1 dX2_cutWord_24 (by decide) ?_
      refine lv_lshl (v := (Int64.ofNat (eN (wr B p q))) <<< ((nI 8).toInt64 &&& 63)) hE.1 hE.2.1 dX2_cutWord_26 rfl ?_
      refine lv_aload_n hE.1 hE.2.1 dX2_cutWord_27 rfl (lv_at hl 1 rfl) ?_
      refine lv_iload hE.1 hE.2.1 dX2_cutWord_28 (lv_at hl 5 rfl) ?_
      refine rg_bald hE hH (hX.2.2.2.2.2.1.1) (hX.2.2.2.2.2.1.2.1) (by omega) (v := nI (B q)) ((hTx.2.1 q (by omega)).trans (by unfold sbI; rw [if_pos (isWS_7 c19)])) dX2_cutWord_30 ?_
      refine lv_i2l (v := (nI (B q)).toInt64) hE.1 hE.2.1 dX2_cutWord_31 rfl ?_
      refine lv_lor hE.1 hE.2.1 dX2_cutWord_32 ?_
      refine rn_asj (v' := Int64.ofNat (eN (wr B p (q + 1)))) (by rw [enc_s (by have := isWS_7 c19; omega), wr_s hpq, eN_app]) ?_
      refine lv_lstore (lv' := [(4, .long (Int64.ofNat (eN (wr B p (q + 1))))), (0, .ref (G.ad 103)), (1, .ref (G.ad 101)), (2, .int (nI p)), (3, .int (nI n)), (6, .int (nI q))]) hE.1 hE.2.1 dX2_cutWord_33 hl (by decide) rfl (fun ls hl => ?_)
      refine lv_iinc (v := nI (q + 1)) (lv' := [(6, .int (nI (q + 1))), (4, .long (Int64.ofNat (eN (wr B p (q + 1))))), (0, .ref (G.ad 103)), (1, .ref (G.ad 101)), (2, .int (nI p)), (3, .int (nI n))]) hE.1 hE.2.1 dX2_cutWord_35 hl (k := 5) rfl (nI_1 _) (by decide) rfl (fun ls hl => ?_)
      refine lv_goto (tgt := 6) hE.1 hE.2.1 dX2_cutWord_38 (by decide) ?_
      exact ih6 (q + 1) _ _ _ (by omega) ⟨by omega, by omega, fun j h1 h2 => by
        by_cases hjq : j = q
        · subst hjq; exact c19
        · exact hws j h1 (by omega), by rw [← hrow, rowE_go (q := fun i => isWS (B i)) (by omega) c19]⟩ (lv_sub hl [2, 3, 4, 5, 1, 0] rfl) hH
set_option maxRecDepth 100000 in
set_option maxHeartbeats 4000000 in
theorem c_Lx_next0 (l : Launch) (z : ZK) (G : GW) (hX : isPx G) (iv : IV) (jv : JV) (B : Nat → Nat) (n K : Nat) (hn : n ≤ 1000) (hK : K ≤ 1000) (hKe : tk (tkN B n K) = 0) (h3 : iv 103 3 = nI (K + 1)) (hT : LXT iv jv B n (K + 1)) (h4 : iv 103 4 = -1) : cV l z yX2_next cX2_next 1 none 0 0 0 0 [.ref (G.ad 103)] G iv jv (fun G' iv' jv' => G = G' ∧ LR iv' jv' B n (tkN B n 0) ∧ Fr iv iv' (fun lb j => lb = 103 ∧ 4 ≤ j ∧ j ≤ 6) ∧ FrJ jv jv' (fun lb j => lb = 103 ∧ j = 7)) := by
  intro sz
  refine rg_entry rfl (Nat.le_of_ble_eq_true rfl) ?_
  intro pq eq sq mq bq methq cq ls hE hr hlk hml hnm hl hsz hH
  have hl : lv_has ls 1 [(0, .ref (G.ad 103))] := hl
  have hl104 : G.ln 104 = 1001 := hX.2.2.1.2.2
  have hl105 : G.ln 105 = 1001 := hX.2.2.2.1.2.2
  have hl106 : G.ln 106 = 1001 := hX.2.2.2.2.1.2.2
  have hl101 : G.ln 101 = 1000 := hX.2.2.2.2.2.1.2.2
  refine lv_aload_n hE.1 hE.2.1 dX2_next_0 rfl (lv_at hl 0 rfl) ?_
  refine rg_geti hE hH cf_X2 fl_X2_26 rfl (hX.2.1.1) (hX.2.1.2) (v := -1) (h4) dX2_next_1 ?_
  refine lv_iconst (v := nI 1) hE.1 hE.2.1 dX2_next_4 (by decide) ?_
  refine lv_iadd hE.1 hE.2.1 dX2_next_5 ?_
  refine rn_as (v' := nI 0) (by decide) ?_
  refine lv_aload_n hE.1 hE.2.1 dX2_next_6 rfl (lv_at hl 0 rfl) ?_
  refine rg_geti hE hH cf_X2 fl_X2_22 rfl (hX.2.1.1) (hX.2.1.2) (v := nI (K + 1)) (h3) dX2_next_7 ?_
  refine rn_icmp_ge (tgt := 62) hE dX2_next_10 (by decide) (by omega) (by omega) (fun c10 => ?_) (fun c10 => ?_)
  · omega
  · refine lv_aload_n hE.1 hE.2.1 dX2_next_13 rfl (lv_at hl 0 rfl) ?_
    refine lv_dup hE.1 hE.2.1 dX2_next_14 rfl ?_
    refine rg_geti hE hH cf_X2 fl_X2_26 rfl (hX.2.1.1) (hX.2.1.2) (v := -1) (h4) dX2_next_15 ?_
    refine lv_iconst (v := nI 1) hE.1 hE.2.1 dX2_next_18 (by decide) ?_
    refine lv_iadd hE.1 hE.2.1 dX2_next_19 ?_
    refine rn_as (v' := nI 0) (by decide) ?_
    refine rg_puti hE hH cf_X2 fl_X2_26 rfl fn_X2_4 (hX.2.1.1) (hX.2.1.2) (v := nI 0) dX2_next_20 (fun H locs hH => ?_)
    refine lv_aload_n hE.1 hE.2.1 dX2_next_23 rfl (lv_at hl 0 rfl) ?_
    refine lv_aload_n hE.1 hE.2.1 dX2_next_24 rfl (lv_at hl 0 rfl) ?_
    refine rg_getr hE hH cf_X2 fl_X2_9 rfl (hX.2.1.1) (hX.2.1.2) (v := 104) (hX.2.2.2.2.2.2.2.1) dX2_next_25 ?_
    refine lv_aload_n hE.1 hE.2.1 dX2_next_28 rfl (lv_at hl 0 rfl) ?_
    refine rg_geti hE hH cf_X2 fl_X2_26 rfl (hX.2.1.1) (hX.2.1.2) (v := nI 0) (rfl) dX2_next_29 ?_
    refine rg_iald hE hH (hX.2.2.1.1) (hX.2.2.1.2.1) (by omega) (v := nI (kdT B (tkN B n 0))) ((hT 0 (by omega)).1) dX2_next_32 ?_
    refine rg_puti hE hH cf_X2 fl_X2_29 rfl fn_X2_5 (hX.2.1.1) (hX.2.1.2) (v := nI (kdT B (tkN B n 0))) dX2_next_33 (fun H locs hH => ?_)
    refine lv_aload_n hE.1 hE.2.1 dX2_next_36 rfl (lv_at hl 0 rfl) ?_
    refine lv_aload_n hE.1 hE.2.1 dX2_next_37 rfl (lv_at hl 0 rfl) ?_
    refine rg_getr hE hH cf_X2 fl_X2_15 rfl (hX.2.1.1) (hX.2.1.2) (v := 105) (hX.2.2.2.2.2.2.2.2.1) dX2_next_38 ?_
    refine lv_aload_n hE.1 hE.2.1 dX2_next_41 rfl (lv_at hl 0 rfl) ?_
    refine rg_geti hE hH cf_X2 fl_X2_26 rfl (hX.2.1.1) (hX.2.1.2) (v := nI 0) (rfl) dX2_next_42 ?_
    refine rg_iald hE hH (hX.2.2.2.1.1) (hX.2.2.2.1.2.1) (by omega) (v := nI (tb (tkN B n 0))) ((hT 0 (by omega)).2.1) dX2_next_45 ?_
    refine rg_puti hE hH cf_X2 fl_X2_32 rfl fn_X2_6 (hX.2.1.1) (hX.2.1.2) (v := nI (tb (tkN B n 0))) dX2_next_46 (fun H locs hH => ?_)
    refine lv_aload_n hE.1 hE.2.1 dX2_next_49 rfl (lv_at hl 0 rfl) ?_
    refine lv_aload_n hE.1 hE.2.1 dX2_next_50 rfl (lv_at hl 0 rfl) ?_
    refine rg_getr hE hH cf_X2 fl_X2_18 rfl (hX.2.1.1) (hX.2.1.2) (v := 106) (hX.2.2.2.2.2.2.2.2.2) dX2_next_51 ?_
    refine lv_aload_n hE.1 hE.2.1 dX2_next_54 rfl (lv_at hl 0 rfl) ?_
    refine rg_geti hE hH cf_X2 fl_X2_26 rfl (hX.2.1.1) (hX.2.1.2) (v := nI 0) (rfl) dX2_next_55 ?_
    refine rg_lald hE hH (hX.2.2.2.2.1.1) (hX.2.2.2.2.1.2.1) (by omega) (v := encT B (tkN B n 0)) ((hT 0 (by omega)).2.2) dX2_next_58 ?_
    refine rg_putj hE hH cf_X2 fl_X2_35 rfl fn_X2_7 (hX.2.1.1) (hX.2.1.2) (v := encT B (tkN B n 0)) dX2_next_59 (fun H locs hH => ?_)
    exact rg_vret hE hr hlk hH ⟨rfl, ⟨⟨K, hK, hKe, h3, hT⟩, hn, 0, by omega, rfl, rfl, rfl, rfl, rfl⟩, Fr.up (Fr.up (Fr.up Fr.rf ⟨rfl, by decide, by decide⟩) ⟨rfl, by decide, by decide⟩) ⟨rfl, by decide, by decide⟩, FrJ.up FrJ.rf ⟨rfl, rfl⟩⟩ dX2_next_62
