set_option maxRecDepth 100000 in
set_option maxHeartbeats 4000000 in
theorem c_wrong (l : Launch) (z : ZK) (G : GW) (hG : isM G) (iv : IV) (jv : JV) (B : Nat → Nat) (n bad : Nat) (t : Tok) (hM : MP iv B n bad t) (k : Nat) (hk : k ≤ 4) : cV l z yX11_wrong cX11_wrong 2 none 0 0 0 0 [.ref (G.ad 0), .int (nI k)] G iv jv (fun G' iv' jv' => G = G' ∧ jv = jv' ∧ MP iv' B n (if bad = 0 then k else bad) t ∧ Fr iv iv' pQ) := by
  intro sz
  refine rg_entry rfl (Nat.le_of_ble_eq_true rfl) ?_
  intro pq eq sq mq bq methq cq ls hE hr hlk hml hnm hl hsz hH
  have hl : lv_has ls 2 [(0, .ref (G.ad 0)), (1, .int (nI k))] := hl
  obtain ⟨hbn, hbe, hen, hk3, hs256, hb4⟩ := hM.b
  refine lv_aload_n hE.1 hE.2.1 dX11_wrong_0 rfl (lv_at hl 0 rfl) ?_
  refine rm_geti hE hH hG fl_X11_131 rfl (v := nI bad) (hM.2.2.2.1) dX11_wrong_1 ?_
  refine rn_if_eq (tgt := 8) hE dX11_wrong_4 (by decide) (by omega) (fun c4 => ?_) (fun c4 => ?_)
  · refine lv_aload_n hE.1 hE.2.1 dX11_wrong_8 rfl (lv_at hl 0 rfl) ?_
    refine lv_iload_n hE.1 hE.2.1 dX11_wrong_9 rfl (lv_at hl 1 rfl) ?_
    refine rm_puti hE hH hG fl_X11_131 rfl fn_X11_35 (v := nI k) dX11_wrong_10 (fun H locs hH => ?_)
    refine lv_aload_n hE.1 hE.2.1 dX11_wrong_13 rfl (lv_at hl 0 rfl) ?_
    refine lv_aload_n hE.1 hE.2.1 dX11_wrong_14 rfl (lv_at hl 0 rfl) ?_
    refine rm_geti hE hH hG fl_X11_115 rfl (v := nI (tb t)) (hM.2.1.2.2.2.1) dX11_wrong_15 ?_
    refine rm_puti hE hH hG fl_X11_134 rfl fn_X11_36 (v := nI (tb t)) dX11_wrong_18 (fun H locs hH => ?_)
    exact rg_vret hE hr hlk hH ⟨rfl, rfl, by rw [if_pos c4]; exact ⟨hM.1, hM.2.1, hM.2.2.1, rfl, hk, fun _ => rfl⟩, Fr.up (Fr.up Fr.rf (by decide)) (by decide)⟩ dX11_wrong_21
  · exact rg_vret hE hr hlk hH ⟨rfl, rfl, by rw [if_neg c4]; exact hM, Fr.rf⟩ dX11_wrong_7
set_option maxRecDepth 100000 in
set_option maxHeartbeats 4000000 in
theorem c_isSign (l : Launch) (z : ZK) (G : GW) (hG : isM G) (iv : IV) (jv : JV) (B : Nat → Nat) (n bad : Nat) (t : Tok) (hM : MP iv B n bad t) (c : Nat) (hc : c ≤ 256) : cI l z yX11_isSign cX11_isSign 2 (some .boolean) 0 0 0 0 [.ref (G.ad 0), .int (nI c)] G iv jv (fun r G' iv' jv' => G = G' ∧ iv = iv' ∧ jv = jv' ∧ r = bI (sg bad t c)) := by
  intro sz
  refine rg_entry rfl (Nat.le_of_ble_eq_true rfl) ?_
  intro pq eq sq mq bq methq cq ls hE hr hlk hml hnm hl hsz hH
  have hl : lv_has ls 2 [(0, .ref (G.ad 0)), (1, .int (nI c))] := hl
  obtain ⟨hbn, hbe, hen, hk3, hs256, hb4⟩ := hM.b
  refine lv_aload_n hE.1 hE.2.1 dX11_isSign_0 rfl (lv_at hl 0 rfl) ?_
  refine rm_geti hE hH hG fl_X11_131 rfl (v := nI bad) (hM.2.2.2.1) dX11_isSign_1 ?_
  refine rn_if_ne (tgt := 27) hE dX11_isSign_4 (by decide) (by omega) (fun c4 => ?_) (fun c4 => ?_)
  · refine lv_iconst (v := nI 0) hE.1 hE.2.1 dX11_isSign_27 (by decide) ?_
    exact rg_iret hE hr (nz_0) hlk hH ⟨rfl, rfl, rfl, zero_bI (by simp [sg, c4])⟩ dX11_isSign_28
  · refine lv_aload_n hE.1 hE.2.1 dX11_isSign_7 rfl (lv_at hl 0 rfl) ?_
    refine rm_geti hE hH hG fl_X11_121 rfl (v := nI (tk t)) (hM.2.1.2.1) dX11_isSign_8 ?_
    refine lv_iconst (v := nI 2) hE.1 hE.2.1 dX11_isSign_11 (by decide) ?_
    refine rn_icmp_ne (tgt := 27) hE dX11_isSign_12 (by decide) (by omega) (by omega) (fun c12 => ?_) (fun c12 => ?_)
    · refine lv_iconst (v := nI 0) hE.1 hE.2.1 dX11_isSign_27 (by decide) ?_
      exact rg_iret hE hr (nz_0) hlk hH ⟨rfl, rfl, rfl, zero_bI (by simp [sg, c4, c12])⟩ dX11_isSign_28
    · refine lv_aload_n hE.1 hE.2.1 dX11_isSign_15 rfl (lv_at hl 0 rfl) ?_
      refine rm_geti hE hH hG fl_X11_118 rfl (v := nI (ts t)) (hM.2.1.2.2.1) dX11_isSign_16 ?_
      refine lv_iload_n hE.1 hE.2.1 dX11_isSign_19 rfl (lv_at hl 1 rfl) ?_
      refine rn_icmp_ne (tgt := 27) hE dX11_isSign_20 (by decide) (by omega) (by omega) (fun c20 => ?_) (fun c20 => ?_)
      · refine lv_iconst (v := nI 0) hE.1 hE.2.1 dX11_isSign_27 (by decide) ?_
        exact rg_iret hE hr (nz_0) hlk hH ⟨rfl, rfl, rfl, zero_bI (by simp [sg, c4, c12, c20])⟩ dX11_isSign_28
      · refine lv_iconst (v := nI 1) hE.1 hE.2.1 dX11_isSign_23 (by decide) ?_
        refine lv_goto (tgt := 28) hE.1 hE.2.1 dX11_isSign_24 (by decide) ?_
        exact rg_iret hE hr (nz_1) hlk hH ⟨rfl, rfl, rfl, one_bI (by simp [sg, c4, c12, c20])⟩ dX11_isSign_28
set_option maxRecDepth 100000 in
set_option maxHeartbeats 4000000 in
theorem c_is (l : Launch) (z : ZK) (G : GW) (hG : isM G) (iv : IV) (jv : JV) (B : Nat → Nat) (n bad : Nat) (t : Tok) (hM : MP iv B n bad t) (i : Nat) (hi : i < 30) : cI l z yX11_is cX11_is 4 (some .boolean) 4 85 0 0 [.ref (G.ad 0), .ref (z.1 i)] G iv jv (fun r G' iv' jv' => G = G' ∧ iv = iv' ∧ jv = jv' ∧ r = bI (kw B bad t i)) := by
  intro sz
  refine rg_entry rfl (Nat.le_of_ble_eq_true rfl) ?_
  intro pq eq sq mq bq methq cq ls hE hr hlk hml hnm hl hsz hH
  have hl : lv_has ls 4 [(0, .ref (G.ad 0)), (1, .ref (z.1 i))] := hl
  obtain ⟨hbn, hbe, hen, hk3, hs256, hb4⟩ := hM.b
  have hsl := sLen_lt i
  refine rg_join (σ := Bool) (nL := 4) (pcJ := 36) hH (fun (b : Bool) => [(0, .ref (G.ad 0)), (1, .ref (z.1 i))]) (fun (b : Bool) => [.int (bI b)]) (fun (b : Bool) => G) (fun (b : Bool) => iv) (fun (b : Bool) => jv) (fun (b : Bool) => b = decide (bad = 0 ∧ tk t = 1 ∧ sLen i = te t - tb t)) ?_ (fun J36 => ?_)
  · rintro b H locs ls hb hl hH
    try dsimp only at hl hH
    refine lv_istore_n (lv' := [(2, .int (bI b)), (0, .ref (G.ad 0)), (1, .ref (z.1 i))]) hE.1 hE.2.1 dX11_is_36 rfl hl (by decide) rfl (fun ls hl => ?_)
    refine lv_iconst (v := nI 0) hE.1 hE.2.1 dX11_is_37 (by decide) ?_
    refine lv_istore_n (lv' := [(3, .int (nI 0)), (2, .int (bI b)), (0, .ref (G.ad 0)), (1, .ref (z.1 i))]) hE.1 hE.2.1 dX11_is_38 rfl hl (by decide) rfl (fun ls hl => ?_)
    refine rg_loop (σ := Bool × Nat) (nL := 4) (fun (u : Bool × Nat) => match u with | (b, k) => sLen i - k) (fun (u : Bool × Nat) => match u with | (b, k) => [(0, .ref (G.ad 0)), (1, .ref (z.1 i)), (2, .int (bI b)), (3, .int (nI k))]) (fun (u : Bool × Nat) => match u with | (b, k) => G) (fun (u : Bool × Nat) => match u with | (b, k) => iv) (fun (u : Bool × Nat) => match u with | (b, k) => jv) (fun (u : Bool × Nat) => match u with | (b, k) => k ≤ sLen i ∧ b = decide (bad = 0 ∧ tk t = 1 ∧ sLen i = te t - tb t ∧ ∀ j, j < k → B (tb t + j) = sB i j)) ?_ ((b, 0)) ⟨Nat.zero_le _, by simp [hb]⟩ (lv_sub hl [2, 3, 1, 0] rfl) hH
    rintro ⟨b, k⟩ H locs ls ⟨hki, hb⟩ hl hH ih39
    try dsimp only at hl hH ih39
    refine lv_iload_n hE.1 hE.2.1 dX11_is_39 rfl (lv_at hl 2 rfl) ?_
    refine rn_ifb_eq (tgt := 82) hE dX11_is_40 (by decide) (fun c40 => ?_) (fun c40 => ?_)
    · try dsimp only at hb
      rw [c40] at hb
      have hres : kw B bad t i = false := by
        simp only [kw, decide_eq_false_iff_not]
        rintro ⟨h1, h2, h3⟩
        rw [wd_eq, sW_len i hi] at h3
        have := of_decide_eq_false hb.symm
        exact this ⟨h1, h2, h3.1.symm, fun j hj => by rw [h3.2 j (by omega)]; rfl⟩
      refine lv_iload_n hE.1 hE.2.1 dX11_is_82 rfl (lv_at hl 2 rfl) ?_
      exact rg_iret hE hr nz_bI hlk hH ⟨rfl, rfl, rfl, by rw [hres, c40]⟩ dX11_is_83
    · try dsimp only at hb
      rw [c40] at hb
      obtain ⟨hb1, hb2, hb3, hb4'⟩ := of_decide_eq_true hb.symm
      have hsl := sLen_lt i
      refine lv_iload_n hE.1 hE.2.1 dX11_is_43 rfl (lv_at hl 3 rfl) ?_
      refine lv_aload_n hE.1 hE.2.1 dX11_is_44 rfl (lv_at hl 1 rfl) ?_
      refine rg_XI (As := []) (rest := [.int (nI k)]) hE hml hH mc_X11_137 (c_slen l z G iv jv i hi) (rs_recv hE hH hi) rfl ⟨Nat.le_of_ble_eq_true rfl, Nat.le_of_ble_eq_true rfl⟩ rfl hl.1 (by simp [Value.category]) dX11_is_45 ⟨Nat.le_of_ble_eq_true rfl, Nat.le_of_ble_eq_true rfl⟩ (fun rs Gs ivs jvs H locs hps hH => ?_)
      obtain ⟨rfl, rfl, rfl, rfl⟩ := hps
      refine rn_icmp_ge (tgt := 82) hE dX11_is_48 (by decide) (by omega) (by omega) (fun c48 => ?_) (fun c48 => ?_)
      · have hres : kw B bad t i = true := by
          simp only [kw, decide_eq_true_eq]
          refine ⟨hb1, hb2, wd_eq.mpr ⟨by rw [sW_len i hi]; omega, fun j hj => ?_⟩⟩
          rw [sW_len i hi] at hj
          rw [hb4' j (by omega)]; rfl
        refine lv_iload_n hE.1 hE.2.1 dX11_is_82 rfl (lv_at hl 2 rfl) ?_
        exact rg_iret hE hr nz_bI hlk hH ⟨rfl, rfl, rfl, by rw [hres, c40]⟩ dX11_is_83
      · refine lv_aload_n hE.1 hE.2.1 dX11_is_51 rfl (lv_at hl 1 rfl) ?_
        refine lv_iload_n hE.1 hE.2.1 dX11_is_52 rfl (lv_at hl 3 rfl) ?_
        refine rg_XI (As := [.int (nI k)]) (rest := []) hE hml hH mc_X11_143 (c_scharAt l z G iv jv i k hi (by omega)) (rs_recv hE hH hi) rfl ⟨Nat.le_of_ble_eq_true rfl, Nat.le_of_ble_eq_true rfl⟩ rfl hl.1 (by simp [Value.category]) dX11_is_53 ⟨Nat.le_of_ble_eq_true rfl, Nat.le_of_ble_eq_true rfl⟩ (fun rs Gs ivs jvs H locs hps hH => ?_)
        obtain ⟨rfl, rfl, rfl, rfl⟩ := hps
        refine lv_aload_n hE.1 hE.2.1 dX11_is_56 rfl (lv_at hl 0 rfl) ?_
        refine rm_getr hE hH hG fl_X11_9 rfl (by decide) dX11_is_57 ?_
        refine lv_aload_n hE.1 hE.2.1 dX11_is_60 rfl (lv_at hl 0 rfl) ?_
        refine rm_geti hE hH hG fl_X11_115 rfl (v := nI (tb t)) (hM.2.1.2.2.2.1) dX11_is_61 ?_
        refine lv_iload_n hE.1 hE.2.1 dX11_is_64 rfl (lv_at hl 3 rfl) ?_
        refine rn_iadd hE dX11_is_65 ?_
        refine rm_iald hE hH hG (k := 1) (by decide) rfl (N := 1000) rfl (n := tb t + k) (by omega) (v := nI (B (tb t + k))) (hM.1.2.2.1 _ (by omega)) dX11_is_66 ?_
        refine rb_icmp_ne (t1 := 74) (t2 := 75) hE dX11_is_67 (by decide) dX11_is_70 dX11_is_71 (by decide) dX11_is_74 rfl (by have := (sB_ok i hi k (by omega)).2; omega) (by have := hM.1.2.2.2 (tb t + k) (by omega); omega) ?_
        refine lv_istore_n (lv' := [(2, .int (bI (decide (sB i k = B (tb t + k))))), (0, .ref (G.ad 0)), (1, .ref (z.1 i)), (3, .int (nI k))]) hE.1 hE.2.1 dX11_is_75 rfl hl (by decide) rfl (fun ls hl => ?_)
        refine lv_iinc (v := nI (k + 1)) (lv' := [(3, .int (nI (k + 1))), (2, .int (bI (decide (sB i k = B (tb t + k))))), (0, .ref (G.ad 0)), (1, .ref (z.1 i))]) hE.1 hE.2.1 dX11_is_76 hl (k := 3) rfl (nI_1 _) (by decide) rfl (fun ls hl => ?_)
        refine lv_goto (tgt := 39) hE.1 hE.2.1 dX11_is_79 (by decide) ?_
        exact ih39 (decide (sB i k = B (tb t + k)), k + 1) _ _ _ (show sLen i - (k + 1) < sLen i - k by omega) ⟨by show k + 1 ≤ sLen i; omega, by
          dsimp only
          congr 1
          rw [eq_iff_iff]
          refine ⟨fun h => ⟨hb1, hb2, hb3, fun j hj => ?_⟩, fun h => (h.2.2.2 k (Nat.lt_succ_self k)).symm⟩
          by_cases hjk : j = k
          · rw [hjk]; exact h.symm
          · exact hb4' j (by omega)⟩ (lv_sub hl [2, 3, 1, 0] rfl) hH
  · refine lv_aload_n hE.1 hE.2.1 dX11_is_0 rfl (lv_at hl 0 rfl) ?_
    refine rm_geti hE hH hG fl_X11_131 rfl (v := nI bad) (hM.2.2.2.1) dX11_is_1 ?_
    refine rn_if_ne (tgt := 35) hE dX11_is_4 (by decide) (by omega) (fun c4 => ?_) (fun c4 => ?_)
    · refine lv_iconst (v := nI 0) hE.1 hE.2.1 dX11_is_35 (by decide) ?_
      exact J36 false _ _ _ (by simp [c4]) (lv_sub hl [0, 1] rfl) hH
    · refine lv_aload_n hE.1 hE.2.1 dX11_is_7 rfl (lv_at hl 0 rfl) ?_
      refine rm_geti hE hH hG fl_X11_121 rfl (v := nI (tk t)) (hM.2.1.2.1) dX11_is_8 ?_
      refine lv_iconst (v := nI 1) hE.1 hE.2.1 dX11_is_11 (by decide) ?_
      refine rn_icmp_ne (tgt := 35) hE dX11_is_12 (by decide) (by omega) (by omega) (fun c12 => ?_) (fun c12 => ?_)
      · refine lv_iconst (v := nI 0) hE.1 hE.2.1 dX11_is_35 (by decide) ?_
        exact J36 false _ _ _ (by simp [c12]) (lv_sub hl [0, 1] rfl) hH
      · refine lv_aload_n hE.1 hE.2.1 dX11_is_15 rfl (lv_at hl 1 rfl) ?_
        refine rg_XI (As := []) (rest := []) hE hml hH mc_X11_137 (c_slen l z G iv jv i hi) (rs_recv hE hH hi) rfl ⟨Nat.le_of_ble_eq_true rfl, Nat.le_of_ble_eq_true rfl⟩ rfl hl.1 (by simp [Value.category]) dX11_is_16 ⟨Nat.le_of_ble_eq_true rfl, Nat.le_of_ble_eq_true rfl⟩ (fun rs Gs ivs jvs H locs hps hH => ?_)
        obtain ⟨rfl, rfl, rfl, rfl⟩ := hps
        refine lv_aload_n hE.1 hE.2.1 dX11_is_19 rfl (lv_at hl 0 rfl) ?_
        refine rm_geti hE hH hG fl_X11_128 rfl (v := nI (te t)) (hM.2.1.2.2.2.2) dX11_is_20 ?_
        refine lv_aload_n hE.1 hE.2.1 dX11_is_23 rfl (lv_at hl 0 rfl) ?_
        refine rm_geti hE hH hG fl_X11_115 rfl (v := nI (tb t)) (hM.2.1.2.2.2.1) dX11_is_24 ?_
        refine rn_isub hE dX11_is_27 (by omega) ?_
        refine rb_icmp_ne (t1 := 35) (t2 := 36) hE dX11_is_28 (by decide) dX11_is_31 dX11_is_32 (by decide) dX11_is_35 rfl (by omega) (by omega) ?_
        exact J36 _ _ _ _ (by simp [c4, c12]) (lv_sub hl [0, 1] rfl) hH
set_option maxRecDepth 100000 in
set_option maxHeartbeats 4000000 in
theorem c_isKeyword (l : Launch) (z : ZK) (G : GW) (hG : isM G) (iv : IV) (jv : JV) (B : Nat → Nat) (n bad : Nat) (t : Tok) (hM : MP iv B n bad t) : cI l z yX11_isKeyword cX11_isKeyword 1 (some .boolean) 5 108 0 0 [.ref (G.ad 0)] G iv jv (fun r G' iv' jv' => G = G' ∧ iv = iv' ∧ jv = jv' ∧ r = bI (decide (bad = 0 ∧ tk t = 1 ∧ wd B t ∈ kws))) := by
  intro sz
  refine rg_entry rfl (Nat.le_of_ble_eq_true rfl) ?_
  intro pq eq sq mq bq methq cq ls hE hr hlk hml hnm hl hsz hH
  have hl : lv_has ls 1 [(0, .ref (G.ad 0))] := hl
  refine lv_aload_n hE.1 hE.2.1 dX11_isKeyword_0 rfl (lv_at hl 0 rfl) ?_
  refine rs_ldc (i := 20) hE (by decide) rfl rfl dX11_isKeyword_1 ?_
  refine rg_VI (As := [.ref (z.1 20)]) (rest := []) hE hml hH mc_X11_149 (c_is l z G hG iv jv B n bad t hM 20 (by decide)) hG.1.1 hG.1.2 (by decide) rfl ⟨Nat.le_of_ble_eq_true rfl, Nat.le_of_ble_eq_true rfl⟩ rfl hl.1 (by simp [Value.category]) dX11_isKeyword_3 ⟨Nat.le_of_ble_eq_true rfl, Nat.le_of_ble_eq_true rfl⟩ (fun r3 G3 iv3 jv3 H locs hp3 hH => ?_)
  obtain ⟨rfl, rfl, rfl, rfl⟩ := hp3
  refine rn_ifb_ne (tgt := 63) hE dX11_isKeyword_6 (by decide) (fun c6 => ?_) (fun c6 => ?_)
  · refine lv_iconst (v := nI 1) hE.1 hE.2.1 dX11_isKeyword_63 (by decide) ?_
    refine lv_goto (tgt := 68) hE.1 hE.2.1 dX11_isKeyword_64 (by decide) ?_
    exact rg_iret hE hr (nz_1) hlk hH ⟨rfl, rfl, rfl, one_bI (kwA_t (i := 20) (by decide) c6)⟩ dX11_isKeyword_68
  · refine lv_aload_n hE.1 hE.2.1 dX11_isKeyword_9 rfl (lv_at hl 0 rfl) ?_
    refine rs_ldc (i := 19) hE (by decide) rfl rfl dX11_isKeyword_10 ?_
    refine rg_VI (As := [.ref (z.1 19)]) (rest := []) hE hml hH mc_X11_149 (c_is l z G hG iv jv B n bad t hM 19 (by decide)) hG.1.1 hG.1.2 (by decide) rfl ⟨Nat.le_of_ble_eq_true rfl, Nat.le_of_ble_eq_true rfl⟩ rfl hl.1 (by simp [Value.category]) dX11_isKeyword_12 ⟨Nat.le_of_ble_eq_true rfl, Nat.le_of_ble_eq_true rfl⟩ (fun r12 G12 iv12 jv12 H locs hp12 hH => ?_)
    obtain ⟨rfl, rfl, rfl, rfl⟩ := hp12
    refine rn_ifb_ne (tgt := 63) hE dX11_isKeyword_15 (by decide) (fun c15 => ?_) (fun c15 => ?_)
    · refine lv_iconst (v := nI 1) hE.1 hE.2.1 dX11_isKeyword_63 (by decide) ?_
      refine lv_goto (tgt := 68) hE.1 hE.2.1 dX11_isKeyword_64 (by decide) ?_
      exact rg_iret hE hr (nz_1) hlk hH ⟨rfl, rfl, rfl, one_bI (kwA_t (i := 19) (by decide) c15)⟩ dX11_isKeyword_68
    · refine lv_aload_n hE.1 hE.2.1 dX11_isKeyword_18 rfl (lv_at hl 0 rfl) ?_
      refine rs_ldc (i := 21) hE (by decide) rfl rfl dX11_isKeyword_19 ?_
      refine rg_VI (As := [.ref (z.1 21)]) (rest := []) hE hml hH mc_X11_149 (c_is l z G hG iv jv B n bad t hM 21 (by decide)) hG.1.1 hG.1.2 (by decide) rfl ⟨Nat.le_of_ble_eq_true rfl, Nat.le_of_ble_eq_true rfl⟩ rfl hl.1 (by simp [Value.category]) dX11_isKeyword_21 ⟨Nat.le_of_ble_eq_true rfl, Nat.le_of_ble_eq_true rfl⟩ (fun r21 G21 iv21 jv21 H locs hp21 hH => ?_)
      obtain ⟨rfl, rfl, rfl, rfl⟩ := hp21
      refine rn_ifb_ne (tgt := 63) hE dX11_isKeyword_24 (by decide) (fun c24 => ?_) (fun c24 => ?_)
      · refine lv_iconst (v := nI 1) hE.1 hE.2.1 dX11_isKeyword_63 (by decide) ?_
        refine lv_goto (tgt := 68) hE.1 hE.2.1 dX11_isKeyword_64 (by decide) ?_
        exact rg_iret hE hr (nz_1) hlk hH ⟨rfl, rfl, rfl, one_bI (kwA_t (i := 21) (by decide) c24)⟩ dX11_isKeyword_68
      · refine lv_aload_n hE.1 hE.2.1 dX11_isKeyword_27 rfl (lv_at hl 0 rfl) ?_
        refine rs_ldc (i := 22) hE (by decide) rfl rfl dX11_isKeyword_28 ?_
        refine rg_VI (As := [.ref (z.1 22)]) (rest := []) hE hml hH mc_X11_149 (c_is l z G hG iv jv B n bad t hM 22 (by decide)) hG.1.1 hG.1.2 (by decide) rfl ⟨Nat.le_of_ble_eq_true rfl, Nat.le_of_ble_eq_true rfl⟩ rfl hl.1 (by simp [Value.category]) dX11_isKeyword_30 ⟨Nat.le_of_ble_eq_true rfl, Nat.le_of_ble_eq_true rfl⟩ (fun r30 G30 iv30 jv30 H locs hp30 hH => ?_)
        obtain ⟨rfl, rfl, rfl, rfl⟩ := hp30
        refine rn_ifb_ne (tgt := 63) hE dX11_isKeyword_33 (by decide) (fun c33 => ?_) (fun c33 => ?_)
        · refine lv_iconst (v := nI 1) hE.1 hE.2.1 dX11_isKeyword_63 (by decide) ?_
          refine lv_goto (tgt := 68) hE.1 hE.2.1 dX11_isKeyword_64 (by decide) ?_
          exact rg_iret hE hr (nz_1) hlk hH ⟨rfl, rfl, rfl, one_bI (kwA_t (i := 22) (by decide) c33)⟩ dX11_isKeyword_68
        · refine lv_aload_n hE.1 hE.2.1 dX11_isKeyword_36 rfl (lv_at hl 0 rfl) ?_
          refine rs_ldc (i := 23) hE (by decide) rfl rfl dX11_isKeyword_37 ?_
          refine rg_VI (As := [.ref (z.1 23)]) (rest := []) hE hml hH mc_X11_149 (c_is l z G hG iv jv B n bad t hM 23 (by decide)) hG.1.1 hG.1.2 (by decide) rfl ⟨Nat.le_of_ble_eq_true rfl, Nat.le_of_ble_eq_true rfl⟩ rfl hl.1 (by simp [Value.category]) dX11_isKeyword_39 ⟨Nat.le_of_ble_eq_true rfl, Nat.le_of_ble_eq_true rfl⟩ (fun r39 G39 iv39 jv39 H locs hp39 hH => ?_)
          obtain ⟨rfl, rfl, rfl, rfl⟩ := hp39
          refine rn_ifb_ne (tgt := 63) hE dX11_isKeyword_42 (by decide) (fun c42 => ?_) (fun c42 => ?_)
          · refine lv_iconst (v := nI 1) hE.1 hE.2.1 dX11_isKeyword_63 (by decide) ?_
            refine lv_goto (tgt := 68) hE.1 hE.2.1 dX11_isKeyword_64 (by decide) ?_
            exact rg_iret hE hr (nz_1) hlk hH ⟨rfl, rfl, rfl, one_bI (kwA_t (i := 23) (by decide) c42)⟩ dX11_isKeyword_68
          · refine lv_aload_n hE.1 hE.2.1 dX11_isKeyword_45 rfl (lv_at hl 0 rfl) ?_
            refine rs_ldc (i := 24) hE (by decide) rfl rfl dX11_isKeyword_46 ?_
            refine rg_VI (As := [.ref (z.1 24)]) (rest := []) hE hml hH mc_X11_149 (c_is l z G hG iv jv B n bad t hM 24 (by decide)) hG.1.1 hG.1.2 (by decide) rfl ⟨Nat.le_of_ble_eq_true rfl, Nat.le_of_ble_eq_true rfl⟩ rfl hl.1 (by simp [Value.category]) dX11_isKeyword_48 ⟨Nat.le_of_ble_eq_true rfl, Nat.le_of_ble_eq_true rfl⟩ (fun r48 G48 iv48 jv48 H locs hp48 hH => ?_)
            obtain ⟨rfl, rfl, rfl, rfl⟩ := hp48
            refine rn_ifb_ne (tgt := 63) hE dX11_isKeyword_51 (by decide) (fun c51 => ?_) (fun c51 => ?_)
            · refine lv_iconst (v := nI 1) hE.1 hE.2.1 dX11_isKeyword_63 (by decide) ?_
              refine lv_goto (tgt := 68) hE.1 hE.2.1 dX11_isKeyword_64 (by decide) ?_
              exact rg_iret hE hr (nz_1) hlk hH ⟨rfl, rfl, rfl, one_bI (kwA_t (i := 24) (by decide) c51)⟩ dX11_isKeyword_68
            · refine lv_aload_n hE.1 hE.2.1 dX11_isKeyword_54 rfl (lv_at hl 0 rfl) ?_
              refine rs_ldc (i := 25) hE (by decide) rfl rfl dX11_isKeyword_55 ?_
              refine rg_VI (As := [.ref (z.1 25)]) (rest := []) hE hml hH mc_X11_149 (c_is l z G hG iv jv B n bad t hM 25 (by decide)) hG.1.1 hG.1.2 (by decide) rfl ⟨Nat.le_of_ble_eq_true rfl, Nat.le_of_ble_eq_true rfl⟩ rfl hl.1 (by simp [Value.category]) dX11_isKeyword_57 ⟨Nat.le_of_ble_eq_true rfl, Nat.le_of_ble_eq_true rfl⟩ (fun r57 G57 iv57 jv57 H locs hp57 hH => ?_)
              obtain ⟨rfl, rfl, rfl, rfl⟩ := hp57
              refine rn_ifb_eq (tgt := 67) hE dX11_isKeyword_60 (by decide) (fun c60 => ?_) (fun c60 => ?_)
              · refine lv_iconst (v := nI 0) hE.1 hE.2.1 dX11_isKeyword_67 (by decide) ?_
                exact rg_iret hE hr (nz_0) hlk hH ⟨rfl, rfl, rfl, zero_bI (kwA_f c6 c15 c24 c33 c42 c51 c60)⟩ dX11_isKeyword_68
              · refine lv_iconst (v := nI 1) hE.1 hE.2.1 dX11_isKeyword_63 (by decide) ?_
                refine lv_goto (tgt := 68) hE.1 hE.2.1 dX11_isKeyword_64 (by decide) ?_
                exact rg_iret hE hr (nz_1) hlk hH ⟨rfl, rfl, rfl, one_bI (kwA_t (i := 25) (by decide) c60)⟩ dX11_isKeyword_68
set_option maxRecDepth 100000 in
set_option maxHeartbeats 4000000 in
theorem c_need (l : Launch) (z : ZK) (G : GW) (hG : isM G) (iv : IV) (jv : JV) (B : Nat → Nat) (n bad : Nat) (t : Tok) (hM : MP iv B n bad t) (c : Nat) (hc : c ≤ 256) : cV l z yX11_need cX11_need 2 none 2 42 0 0 [.ref (G.ad 0), .int (nI c)] G iv jv (fun G' iv' jv' => G = G' ∧ jv = jv' ∧ MP iv' B n (nd B n bad t c).1 (nd B n bad t c).2 ∧ Fr iv iv' pQ) := by
  intro sz
  refine rg_entry rfl (Nat.le_of_ble_eq_true rfl) ?_
  intro pq eq sq mq bq methq cq ls hE hr hlk hml hnm hl hsz hH
  have hl : lv_has ls 2 [(0, .ref (G.ad 0)), (1, .int (nI c))] := hl
  obtain ⟨hbn, hbe, hen, hk3, hs256, hb4⟩ := hM.b
  have hFr : Fr iv iv pQ := Fr.rf
  refine lv_aload_n hE.1 hE.2.1 dX11_need_0 rfl (lv_at hl 0 rfl) ?_
  refine rm_geti hE hH hG fl_X11_131 rfl (v := nI bad) (hM.2.2.2.1) dX11_need_1 ?_
  refine rn_if_ne (tgt := 20) hE dX11_need_4 (by decide) (by omega) (fun c4 => ?_) (fun c4 => ?_)
  · refine lv_aload_n hE.1 hE.2.1 dX11_need_20 rfl (lv_at hl 0 rfl) ?_
    refine rm_geti hE hH hG fl_X11_131 rfl (v := nI bad) (hM.2.2.2.1) dX11_need_21 ?_
    refine rn_if_ne (tgt := 31) hE dX11_need_24 (by decide) (by omega) (fun c24 => ?_) (fun c24 => ?_)
    · exact rg_vret hE hr hlk hH ⟨rfl, rfl, by rw [nd, if_pos c4]; exact hM, hFr⟩ dX11_need_31
    · exact absurd c24 c4
  · subst c4
    refine lv_aload_n hE.1 hE.2.1 dX11_need_7 rfl (lv_at hl 0 rfl) ?_
    refine lv_iload_n hE.1 hE.2.1 dX11_need_8 rfl (lv_at hl 1 rfl) ?_
    refine rg_VI (As := [.int (nI c)]) (rest := []) hE hml hH mc_X11_165 (c_isSign l z G hG iv jv B n 0 t hM c hc) hG.1.1 hG.1.2 (by decide) rfl ⟨Nat.le_of_ble_eq_true rfl, Nat.le_of_ble_eq_true rfl⟩ rfl hl.1 (by simp [Value.category]) dX11_need_9 ⟨Nat.le_of_ble_eq_true rfl, Nat.le_of_ble_eq_true rfl⟩ (fun r9 G9 iv9 jv9 H locs hp9 hH => ?_)
    obtain ⟨rfl, rfl, rfl, rfl⟩ := hp9
    refine rn_ifb_ne (tgt := 20) hE dX11_need_12 (by decide) (fun c12 => ?_) (fun c12 => ?_)
    · refine lv_aload_n hE.1 hE.2.1 dX11_need_20 rfl (lv_at hl 0 rfl) ?_
      refine rm_geti hE hH hG fl_X11_131 rfl (v := nI 0) (hM.2.2.2.1) dX11_need_21 ?_
      refine rn_if_ne (tgt := 31) hE dX11_need_24 (by decide) (by omega) (fun c24 => ?_) (fun c24 => ?_)
      · omega
      · refine lv_aload_n hE.1 hE.2.1 dX11_need_27 rfl (lv_at hl 0 rfl) ?_
        refine rg_VV (As := []) (rest := []) hE hml hH mc_X11_172 (c_step l z G hG iv jv B n (te t) hM.1 (TV_b hM.2.2.1).2.1 hM.2.1.1) hG.1.1 hG.1.2 (by decide) rfl ⟨Nat.le_of_ble_eq_true rfl, Nat.le_of_ble_eq_true rfl⟩ rfl hl.1 (by simp [Value.category]) dX11_need_28 ⟨Nat.le_of_ble_eq_true rfl, Nat.le_of_ble_eq_true rfl⟩ (fun G28 iv28 jv28 H locs hp28 hH => ?_)
        obtain ⟨rfl, rfl, hTR28, hF28⟩ := hp28
        have hM := MP.step hM hTR28 hF28
        have hFr := hFr.tr ((pS_pQ hF28).mono (fun _ _ h => h))
        exact rg_vret hE hr hlk hH ⟨rfl, rfl, by rw [nd, if_neg (by simp), if_pos (by simpa [sg] using c12)]; exact hM, hFr⟩ dX11_need_31
    · refine lv_aload_n hE.1 hE.2.1 dX11_need_15 rfl (lv_at hl 0 rfl) ?_
      refine lv_iconst (v := nI 1) hE.1 hE.2.1 dX11_need_16 (by decide) ?_
      refine rg_VV (As := [.int (nI 1)]) (rest := []) hE hml hH mc_X11_168 (c_wrong l z G hG iv jv B n 0 t hM 1 (by decide)) hG.1.1 hG.1.2 (by decide) rfl ⟨Nat.le_of_ble_eq_true rfl, Nat.le_of_ble_eq_true rfl⟩ rfl hl.1 (by simp [Value.category]) dX11_need_17 ⟨Nat.le_of_ble_eq_true rfl, Nat.le_of_ble_eq_true rfl⟩ (fun G17 iv17 jv17 H locs hp17 hH => ?_)
      obtain ⟨rfl, rfl, hM, hF17⟩ := hp17
      rw [if_pos rfl] at hM
      have hFr := hFr.tr (hF17.mono (fun _ _ h => h))
      refine lv_aload_n hE.1 hE.2.1 dX11_need_20 rfl (lv_at hl 0 rfl) ?_
      refine rm_geti hE hH hG fl_X11_131 rfl (v := nI 1) (hM.2.2.2.1) dX11_need_21 ?_
      refine rn_if_ne (tgt := 31) hE dX11_need_24 (by decide) (by omega) (fun c24 => ?_) (fun c24 => ?_)
      · exact rg_vret hE hr hlk hH ⟨rfl, rfl, by rw [nd, if_neg (by simp), if_neg (by simpa [sg] using c12)]; exact hM, hFr⟩ dX11_need_31
      · omega
set_option maxRecDepth 100000 in
set_option maxHeartbeats 4000000 in
theorem c_free (l : Launch) (z : ZK) (G : GW) (hG : isM G) (iv : IV) (jv : JV) (B : Nat → Nat) (n bad : Nat) (t : Tok) (hM : MP iv B n bad t) : cI l z yX11_free cX11_free 1 (some .boolean) 6 128 0 0 [.ref (G.ad 0)] G iv jv (fun r G' iv' jv' => G = G' ∧ jv = jv' ∧ r = bI (decide (bad = 0 ∧ frF B t = 0)) ∧ MP iv' B n (fb B bad t) t ∧ Fr iv iv' pQ) := by
  intro sz
  refine rg_entry rfl (Nat.le_of_ble_eq_true rfl) ?_
  intro pq eq sq mq bq methq cq ls hE hr hlk hml hnm hl hsz hH
  have hl : lv_has ls 1 [(0, .ref (G.ad 0))] := hl
  obtain ⟨hbn, hbe, hen, hk3, hs256, hb4⟩ := hM.b
  have hFr : Fr iv iv pQ := Fr.rf
  refine lv_aload_n hE.1 hE.2.1 dX11_free_0 rfl (lv_at hl 0 rfl) ?_
  refine rm_geti hE hH hG fl_X11_131 rfl (v := nI bad) (hM.2.2.2.1) dX11_free_1 ?_
  refine rn_if_ne (tgt := 30) hE dX11_free_4 (by decide) (by omega) (fun c4 => ?_) (fun c4 => ?_)
  · refine lv_aload_n hE.1 hE.2.1 dX11_free_30 rfl (lv_at hl 0 rfl) ?_
    refine rm_geti hE hH hG fl_X11_131 rfl (v := nI bad) (hM.2.2.2.1) dX11_free_31 ?_
    refine rn_if_ne (tgt := 56) hE dX11_free_34 (by decide) (by omega) (fun c34 => ?_) (fun c34 => ?_)
    · refine lv_aload_n hE.1 hE.2.1 dX11_free_56 rfl (lv_at hl 0 rfl) ?_
      refine rm_geti hE hH hG fl_X11_131 rfl (v := nI bad) (hM.2.2.2.1) dX11_free_57 ?_
      refine rn_if_ne (tgt := 67) hE dX11_free_60 (by decide) (by omega) (fun c60 => ?_) (fun c60 => ?_)
      · refine lv_iconst (v := nI 0) hE.1 hE.2.1 dX11_free_67 (by decide) ?_
        exact rg_iret hE hr (nz_0) hlk hH ⟨rfl, rfl, zero_bI (by simp [c4]), by rw [fb, if_neg c4]; exact hM, hFr⟩ dX11_free_68
      · exact absurd c60 c4
    · exact absurd c34 c4
  · subst c4
    refine lv_aload_n hE.1 hE.2.1 dX11_free_7 rfl (lv_at hl 0 rfl) ?_
    refine rm_geti hE hH hG fl_X11_121 rfl (v := nI (tk t)) (hM.2.1.2.1) dX11_free_8 ?_
    refine lv_iconst (v := nI 1) hE.1 hE.2.1 dX11_free_11 (by decide) ?_
    refine rn_icmp_ne (tgt := 22) hE dX11_free_12 (by decide) (by omega) (by omega) (fun c12 => ?_) (fun c12 => ?_)
    · have h1 := fb_1 (B := B) (t := t) (Or.inl c12)
      refine lv_aload_n hE.1 hE.2.1 dX11_free_22 rfl (lv_at hl 0 rfl) ?_
      refine lv_iconst (v := nI 1) hE.1 hE.2.1 dX11_free_23 (by decide) ?_
      refine rg_VV (As := [.int (nI 1)]) (rest := []) hE hml hH mc_X11_168 (c_wrong l z G hG iv jv B n 0 t hM 1 (by decide)) hG.1.1 hG.1.2 (by decide) rfl ⟨Nat.le_of_ble_eq_true rfl, Nat.le_of_ble_eq_true rfl⟩ rfl hl.1 (by simp [Value.category]) dX11_free_24 ⟨Nat.le_of_ble_eq_true rfl, Nat.le_of_ble_eq_true rfl⟩ (fun G24 iv24 jv24 H locs hp24 hH => ?_)
      obtain ⟨rfl, rfl, hM, hF24⟩ := hp24
      rw [if_pos rfl] at hM
      have hFr := hFr.tr (hF24.mono (fun _ _ h => h))
      refine lv_goto (tgt := 56) hE.1 hE.2.1 dX11_free_27 (by decide) ?_
      refine lv_aload_n hE.1 hE.2.1 dX11_free_56 rfl (lv_at hl 0 rfl) ?_
      refine rm_geti hE hH hG fl_X11_131 rfl (v := nI 1) (hM.2.2.2.1) dX11_free_57 ?_
      refine rn_if_ne (tgt := 67) hE dX11_free_60 (by decide) (by omega) (fun c60 => ?_) (fun c60 => ?_)
      · refine lv_iconst (v := nI 0) hE.1 hE.2.1 dX11_free_67 (by decide) ?_
        exact rg_iret hE hr (nz_0) hlk hH ⟨rfl, rfl, zero_bI (by simp [h1]), by rw [fb, if_pos rfl, h1]; exact hM, hFr⟩ dX11_free_68
      · omega
    · refine lv_aload_n hE.1 hE.2.1 dX11_free_15 rfl (lv_at hl 0 rfl) ?_
      refine rg_VI (As := []) (rest := []) hE hml hH mc_X11_175 (c_isKeyword l z G hG iv jv B n 0 t hM) hG.1.1 hG.1.2 (by decide) rfl ⟨Nat.le_of_ble_eq_true rfl, Nat.le_of_ble_eq_true rfl⟩ rfl hl.1 (by simp [Value.category]) dX11_free_16 ⟨Nat.le_of_ble_eq_true rfl, Nat.le_of_ble_eq_true rfl⟩ (fun r16 G16 iv16 jv16 H locs hp16 hH => ?_)
      obtain ⟨rfl, rfl, rfl, rfl⟩ := hp16
      refine rn_ifb_eq (tgt := 30) hE dX11_free_19 (by decide) (fun c19 => ?_) (fun c19 => ?_)
      · have hnk : wd B t ∉ kws := fun h => (of_decide_eq_false c19) ⟨rfl, c12, h⟩
        refine lv_aload_n hE.1 hE.2.1 dX11_free_30 rfl (lv_at hl 0 rfl) ?_
        refine rm_geti hE hH hG fl_X11_131 rfl (v := nI 0) (hM.2.2.2.1) dX11_free_31 ?_
        refine rn_if_ne (tgt := 56) hE dX11_free_34 (by decide) (by omega) (fun c34 => ?_) (fun c34 => ?_)
        · omega
        · refine lv_aload_n hE.1 hE.2.1 dX11_free_37 rfl (lv_at hl 0 rfl) ?_
          refine rm_geti hE hH hG fl_X11_128 rfl (v := nI (te t)) (hM.2.1.2.2.2.2) dX11_free_38 ?_
          refine lv_aload_n hE.1 hE.2.1 dX11_free_41 rfl (lv_at hl 0 rfl) ?_
          refine rm_geti hE hH hG fl_X11_115 rfl (v := nI (tb t)) (hM.2.1.2.2.2.1) dX11_free_42 ?_
          refine rn_isub hE dX11_free_45 (by omega) ?_
          refine lv_bipush (v := nI 8) hE.1 hE.2.1 dX11_free_46 (by decide) ?_
          refine rn_icmp_le (tgt := 56) hE dX11_free_48 (by decide) (by omega) (by omega) (fun c48 => ?_) (fun c48 => ?_)
          · have h1 := fb_0 (B := B) (t := t) c12 hnk (by omega)
            refine lv_aload_n hE.1 hE.2.1 dX11_free_56 rfl (lv_at hl 0 rfl) ?_
            refine rm_geti hE hH hG fl_X11_131 rfl (v := nI 0) (hM.2.2.2.1) dX11_free_57 ?_
            refine rn_if_ne (tgt := 67) hE dX11_free_60 (by decide) (by omega) (fun c60 => ?_) (fun c60 => ?_)
            · omega
            · refine lv_iconst (v := nI 1) hE.1 hE.2.1 dX11_free_63 (by decide) ?_
              refine lv_goto (tgt := 68) hE.1 hE.2.1 dX11_free_64 (by decide) ?_
              exact rg_iret hE hr (nz_1) hlk hH ⟨rfl, rfl, one_bI (by simp [h1]), by rw [fb, if_pos rfl, h1]; exact hM, hFr⟩ dX11_free_68
          · have h1 := fb_2 (B := B) (t := t) c12 hnk (by omega)
            refine lv_aload_n hE.1 hE.2.1 dX11_free_51 rfl (lv_at hl 0 rfl) ?_
            refine lv_iconst (v := nI 2) hE.1 hE.2.1 dX11_free_52 (by decide) ?_
            refine rg_VV (As := [.int (nI 2)]) (rest := []) hE hml hH mc_X11_168 (c_wrong l z G hG iv jv B n 0 t hM 2 (by decide)) hG.1.1 hG.1.2 (by decide) rfl ⟨Nat.le_of_ble_eq_true rfl, Nat.le_of_ble_eq_true rfl⟩ rfl hl.1 (by simp [Value.category]) dX11_free_53 ⟨Nat.le_of_ble_eq_true rfl, Nat.le_of_ble_eq_true rfl⟩ (fun G53 iv53 jv53 H locs hp53 hH => ?_)
            obtain ⟨rfl, rfl, hM, hF53⟩ := hp53
            rw [if_pos rfl] at hM
            have hFr := hFr.tr (hF53.mono (fun _ _ h => h))
            refine lv_aload_n hE.1 hE.2.1 dX11_free_56 rfl (lv_at hl 0 rfl) ?_
            refine rm_geti hE hH hG fl_X11_131 rfl (v := nI 2) (hM.2.2.2.1) dX11_free_57 ?_
            refine rn_if_ne (tgt := 67) hE dX11_free_60 (by decide) (by omega) (fun c60 => ?_) (fun c60 => ?_)
            · refine lv_iconst (v := nI 0) hE.1 hE.2.1 dX11_free_67 (by decide) ?_
              exact rg_iret hE hr (nz_0) hlk hH ⟨rfl, rfl, zero_bI (by simp [h1]), by rw [fb, if_pos rfl, h1]; exact hM, hFr⟩ dX11_free_68
            · omega
      · have h1 := fb_1 (B := B) (t := t) (Or.inr (by simpa using (of_decide_eq_true c19).2.2))
        refine lv_aload_n hE.1 hE.2.1 dX11_free_22 rfl (lv_at hl 0 rfl) ?_
        refine lv_iconst (v := nI 1) hE.1 hE.2.1 dX11_free_23 (by decide) ?_
        refine rg_VV (As := [.int (nI 1)]) (rest := []) hE hml hH mc_X11_168 (c_wrong l z G hG iv jv B n 0 t hM 1 (by decide)) hG.1.1 hG.1.2 (by decide) rfl ⟨Nat.le_of_ble_eq_true rfl, Nat.le_of_ble_eq_true rfl⟩ rfl hl.1 (by simp [Value.category]) dX11_free_24 ⟨Nat.le_of_ble_eq_true rfl, Nat.le_of_ble_eq_true rfl⟩ (fun G24 iv24 jv24 H locs hp24 hH => ?_)
        obtain ⟨rfl, rfl, hM, hF24⟩ := hp24
        rw [if_pos rfl] at hM
        have hFr := hFr.tr (hF24.mono (fun _ _ h => h))
        refine lv_goto (tgt := 56) hE.1 hE.2.1 dX11_free_27 (by decide) ?_
        refine lv_aload_n hE.1 hE.2.1 dX11_free_56 rfl (lv_at hl 0 rfl) ?_
        refine rm_geti hE hH hG fl_X11_131 rfl (v := nI 1) (hM.2.2.2.1) dX11_free_57 ?_
        refine rn_if_ne (tgt := 67) hE dX11_free_60 (by decide) (by omega) (fun c60 => ?_) (fun c60 => ?_)
        · refine lv_iconst (v := nI 0) hE.1 hE.2.1 dX11_free_67 (by decide) ?_
          exact rg_iret hE hr (nz_0) hlk hH ⟨rfl, rfl, zero_bI (by simp [h1]), by rw [fb, if_pos rfl, h1]; exact hM, hFr⟩ dX11_free_68
        · omega
set_option maxRecDepth 100000 in
set_option maxHeartbeats 4000000 in
theorem c_wordAt (l : Launch) (z : ZK) (G : GW) (hG : isM G) (iv : IV) (jv : JV) (a b c : Nat) : cI l z yX11_wordAt cX11_wordAt 3 (some .int) 0 0 0 0 [.int (nI a), .int (nI b), .int (nI c)] G iv jv (fun r G' iv' jv' => G = G' ∧ iv = iv' ∧ jv = jv' ∧ r = nI (42 * a + 7 * b + c)) := by
  intro sz
  refine rg_entry rfl (Nat.le_of_ble_eq_true rfl) ?_
  intro pq eq sq mq bq methq cq ls hE hr hlk hml hnm hl hsz hH
  have hl : lv_has ls 3 [(0, .int (nI a)), (1, .int (nI b)), (2, .int (nI c))] := hl
  refine lv_bipush (v := nI 42) hE.1 hE.2.1 dX11_wordAt_0 (by decide) ?_
  refine lv_iload_n hE.1 hE.2.1 dX11_wordAt_2 rfl (lv_at hl 0 rfl) ?_
  refine rn_imul hE dX11_wordAt_3 ?_
  refine lv_bipush (v := nI 7) hE.1 hE.2.1 dX11_wordAt_4 (by decide) ?_
  refine lv_iload_n hE.1 hE.2.1 dX11_wordAt_6 rfl (lv_at hl 1 rfl) ?_
  refine rn_imul hE dX11_wordAt_7 ?_
  refine rn_iadd hE dX11_wordAt_8 ?_
  refine lv_iload_n hE.1 hE.2.1 dX11_wordAt_9 rfl (lv_at hl 2 rfl) ?_
  refine rn_iadd hE dX11_wordAt_10 ?_
  exact rg_iret hE hr rfl hlk hH ⟨rfl, rfl, rfl, rfl⟩ dX11_wordAt_11
