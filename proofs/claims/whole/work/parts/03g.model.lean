set_option maxRecDepth 100000 in
set_option maxHeartbeats 4000000 in
theorem c_readInput (l : Launch) (z : ZK) (G : GW) (hG : isM G) (iv : IV) (jv : JV) (B : Nat → Nat) (n : Nat) (t : Tok) (hM : MP iv B n 0 t) (T i ahead : Nat) (hT : T < 6) (hi : i ≤ 5) (nms : List Wd) (hni : nms.length ≤ i) (h8 : iv 8 T = nI nms.length) (hN : ∀ o, o < nms.length → SW iv (42 * T + 7 * o + 0) (nms.getD o [])) (hah : ahead ≤ 400) (hout : i = 5 → ahead = 0) : cV l z yX11_readInput cX11_readInput 6 none 7 148 0 0 [.ref (G.ad 0), .int (nI T), .int (nI i), .int (nI ahead)] G iv jv (fun G' iv' jv' => G = G' ∧ jv = jv' ∧ (MP iv' B n (rdCol B n nms ahead t).1 (rdCol B n nms ahead t).2.2.2 ∧ ((rdCol B n nms ahead t).1 = 0 → SW iv' (42 * T + 7 * i + 0) (rdCol B n nms ahead t).2.1 ∧ VS iv' T i (rdCol B n nms ahead t).2.2.1)) ∧ Fr iv iv' (pC T i)) := by
  intro sz
  refine rg_entry rfl (Nat.le_of_ble_eq_true rfl) ?_
  intro pq eq sq mq bq methq cq ls hE hr hlk hml hnm hl hsz hH
  have hl : lv_has ls 6 [(0, .ref (G.ad 0)), (1, .int (nI T)), (2, .int (nI i)), (3, .int (nI ahead))] := hl
  obtain ⟨hbn, hbe, hen, hk3, hs256, hb4⟩ := hM.b
  refine lv_bipush (v := nI 6) hE.1 hE.2.1 dX11_readInput_0 (by decide) ?_
  refine lv_iload_n hE.1 hE.2.1 dX11_readInput_2 rfl (lv_at hl 1 rfl) ?_
  refine rn_imul hE dX11_readInput_3 ?_
  refine lv_iload_n hE.1 hE.2.1 dX11_readInput_4 rfl (lv_at hl 2 rfl) ?_
  refine rn_iadd hE dX11_readInput_5 ?_
  refine lv_istore (lv' := [(4, .int (nI (6 * T + i))), (0, .ref (G.ad 0)), (1, .int (nI T)), (2, .int (nI i)), (3, .int (nI ahead))]) hE.1 hE.2.1 dX11_readInput_6 hl (by decide) rfl (fun ls hl => ?_)
  refine lv_aload_n hE.1 hE.2.1 dX11_readInput_8 rfl (lv_at hl 1 rfl) ?_
  refine rm_getr hE hH hG fl_X11_26 rfl (by decide) dX11_readInput_9 ?_
  refine lv_iload hE.1 hE.2.1 dX11_readInput_12 (lv_at hl 0 rfl) ?_
  refine lv_iconst (v := nI 0) hE.1 hE.2.1 dX11_readInput_14 (by decide) ?_
  refine rm_iast hE hH hG (k := 10) (by decide) rfl (N := 36) rfl (n := 6 * T + i) (by omega) (v := nI 0) dX11_readInput_15 (fun H locs hH => ?_)
  have hM := hM.up 10 (6 * T + i) (nI 0) (by decide) (by decide)
  have hFr : Fr iv (up2 iv 10 (6 * T + i) (nI 0)) (pC T i) := Fr.up Fr.rf (Or.inr (Or.inl ⟨rfl, rfl⟩))
  refine lv_aload_n hE.1 hE.2.1 dX11_readInput_16 rfl (lv_at hl 1 rfl) ?_
  refine rg_VV (As := []) (rest := []) hE hml hH mc_X11_172 (c_step l z G hG (up2 iv 10 (6 * T + i) (nI 0)) jv B n (te t) hM.1 (TV_b hM.2.2.1).2.1 hM.2.1.1) hG.1.1 hG.1.2 (by decide) rfl ⟨Nat.le_of_ble_eq_true rfl, Nat.le_of_ble_eq_true rfl⟩ rfl hl.1 (by simp [Value.category]) dX11_readInput_17 ⟨Nat.le_of_ble_eq_true rfl, Nat.le_of_ble_eq_true rfl⟩ (fun G17 iv17 jv17 H locs hp17 hH => ?_)
  obtain ⟨rfl, rfl, hTR17, hF17⟩ := hp17
  have hM := MP.step hM hTR17 hF17
  have hFr := hFr.tr ((pS_pQ hF17).mono (fun _ _ h => Or.inl h))
  refine lv_aload_n hE.1 hE.2.1 dX11_readInput_20 rfl (lv_at hl 1 rfl) ?_
  refine rg_VI (As := []) (rest := []) hE hml hH mc_X11_186 (c_free l z G hG iv17 jv B n 0 (nx B n t) hM) hG.1.1 hG.1.2 (by decide) rfl ⟨Nat.le_of_ble_eq_true rfl, Nat.le_of_ble_eq_true rfl⟩ rfl hl.1 (by simp [Value.category]) dX11_readInput_21 ⟨Nat.le_of_ble_eq_true rfl, Nat.le_of_ble_eq_true rfl⟩ (fun r21 G21 iv21 jv21 H locs hp21 hH => ?_)
  obtain ⟨rfl, rfl, rfl, hM, hF21⟩ := hp21
  have hFr := hFr.tr (hF21.mono (fun _ _ h => Or.inl h))
  have h10 : iv21 10 (6 * T + i) = nI 0 := ((hF21 10 _ (by simp)).trans (hF17 10 _ (by simp))).trans up2_s
  refine rn_ifb_ne (tgt := 28) hE dX11_readInput_24 (by decide) (fun c24 => ?_) (fun c24 => ?_)
  · obtain ⟨-, hf0⟩ := of_decide_eq_true c24
    rw [fb, if_pos rfl, hf0] at hM
    have hf1 := frF_0 hf0
    refine lv_iconst (v := nI 0) hE.1 hE.2.1 dX11_readInput_28 (by decide) ?_
    refine lv_istore (lv' := [(5, .int (nI 0)), (4, .int (nI (6 * T + i))), (0, .ref (G.ad 0)), (1, .int (nI T)), (2, .int (nI i)), (3, .int (nI ahead))]) hE.1 hE.2.1 dX11_readInput_29 hl (by decide) rfl (fun ls hl => ?_)
    refine rg_loop (σ := IV × Nat) (nL := 6) (fun (u : IV × Nat) => match u with | (iv1, o) => nms.length - o) (fun (u : IV × Nat) => match u with | (iv1, o) => [(0, .ref (G.ad 0)), (1, .int (nI T)), (2, .int (nI i)), (3, .int (nI ahead)), (4, .int (nI (6 * T + i))), (5, .int (nI o))]) (fun (u : IV × Nat) => match u with | (iv1, o) => G) (fun (u : IV × Nat) => match u with | (iv1, o) => iv1) (fun (u : IV × Nat) => match u with | (iv1, o) => jv) (fun (u : IV × Nat) => match u with | (iv1, o) => o ≤ nms.length ∧ MP iv1 B n (bo (wd B (nx B n t)) nms o) (nx B n t) ∧ Fr iv iv1 (pC T i) ∧ iv1 10 (6 * T + i) = nI 0) ?_ ((iv21, 0)) ⟨Nat.zero_le _, by rw [bo, if_neg (by simp)]; exact hM, hFr, h10⟩ (lv_sub hl [2, 3, 4, 5, 1, 0] rfl) hH
    rintro ⟨iv1, o⟩ H locs ls ⟨ho, hM, hFr, h10⟩ hl hH ih31
    try dsimp only at hl hH ih31
    try dsimp only at ho hM hFr h10
    have hbo := bo_le (x := wd B (nx B n t)) (l := nms) (o := o)
    refine lv_iload hE.1 hE.2.1 dX11_readInput_31 (lv_at hl 5 rfl) ?_
    refine lv_aload_n hE.1 hE.2.1 dX11_readInput_33 rfl (lv_at hl 0 rfl) ?_
    refine rm_getr hE hH hG fl_X11_20 rfl (by decide) dX11_readInput_34 ?_
    refine lv_iload_n hE.1 hE.2.1 dX11_readInput_37 rfl (lv_at hl 1 rfl) ?_
    refine rm_iald hE hH hG (k := 8) (by decide) rfl (N := 6) rfl (n := T) (by omega) (v := nI nms.length) ((hFr 8 T (by simp)).trans h8) dX11_readInput_38 ?_
    refine rn_icmp_ge (tgt := 67) hE dX11_readInput_39 (by decide) (by omega) (by omega) (fun c39 => ?_) (fun c39 => ?_)
    · by_cases hin : wd B (nx B n t) ∈ nms
      · rw [bo, List.take_of_length_le c39, if_pos hin] at hM
        refine lv_aload_n hE.1 hE.2.1 dX11_readInput_67 rfl (lv_at hl 0 rfl) ?_
        refine rm_geti hE hH hG fl_X11_131 rfl (v := nI 4) (hM.2.2.2.1) dX11_readInput_68 ?_
        refine rn_if_eq (tgt := 75) hE dX11_readInput_71 (by decide) (by omega) (fun c71 => ?_) (fun c71 => ?_)
        · omega
        · exact rg_vret hE hr hlk hH ⟨rfl, rfl, by rw [rdCol_2 hf0 hin]; exact ⟨hM, fun h => absurd h (by simp)⟩, hFr⟩ dX11_readInput_74
      · rw [bo, List.take_of_length_le c39, if_neg hin] at hM
        refine lv_aload_n hE.1 hE.2.1 dX11_readInput_67 rfl (lv_at hl 0 rfl) ?_
        refine rm_geti hE hH hG fl_X11_131 rfl (v := nI 0) (hM.2.2.2.1) dX11_readInput_68 ?_
        refine rn_if_eq (tgt := 75) hE dX11_readInput_71 (by decide) (by omega) (fun c71 => ?_) (fun c71 => ?_)
        · refine lv_aload_n hE.1 hE.2.1 dX11_readInput_75 rfl (lv_at hl 0 rfl) ?_
          refine lv_iload_n hE.1 hE.2.1 dX11_readInput_76 rfl (lv_at hl 1 rfl) ?_
          refine lv_iload_n hE.1 hE.2.1 dX11_readInput_77 rfl (lv_at hl 2 rfl) ?_
          refine lv_iconst (v := nI 0) hE.1 hE.2.1 dX11_readInput_78 (by decide) ?_
          refine rg_SI (As := [.int (nI T), .int (nI i), .int (nI 0)]) (rest := [.ref (G.ad 0)]) hE hml hH mc_X11_179 (c_wordAt l z G hG iv1 jv T i 0) rfl ⟨Nat.le_of_ble_eq_true rfl, Nat.le_of_ble_eq_true rfl⟩ rfl hl.1 (by simp [Value.category]) dX11_readInput_79 ⟨Nat.le_of_ble_eq_true rfl, Nat.le_of_ble_eq_true rfl⟩ (fun r79 G79 iv79 jv79 H locs hp79 hH => ?_)
          obtain ⟨rfl, rfl, rfl, rfl⟩ := hp79
          refine rg_VV (As := [.int (nI (42 * T + 7 * i + 0))]) (rest := []) hE hml hH mc_X11_193 (c_keepWord l z G hG iv1 jv B n (nx B n t) hM hf1.2.2 (42 * T + 7 * i + 0) (by omega)) hG.1.1 hG.1.2 (by decide) rfl ⟨Nat.le_of_ble_eq_true rfl, Nat.le_of_ble_eq_true rfl⟩ rfl hl.1 (by simp [Value.category]) dX11_readInput_82 ⟨Nat.le_of_ble_eq_true rfl, Nat.le_of_ble_eq_true rfl⟩ (fun G82 iv82 jv82 H locs hp82 hH => ?_)
          obtain ⟨rfl, rfl, hM, hSW82, hF82⟩ := hp82
          have h10 : iv82 10 (6 * T + i) = nI 0 := (hF82 10 _ (by simp)).trans h10
          have hFr := hFr.tr (hF82.mono (pK_pC (by omega) (by omega)))
          refine lv_aload_n hE.1 hE.2.1 dX11_readInput_85 rfl (lv_at hl 0 rfl) ?_
          refine lv_bipush (v := nI 58) hE.1 hE.2.1 dX11_readInput_86 (by decide) ?_
          refine rg_VV (As := [.int (nI 58)]) (rest := []) hE hml hH mc_X11_196 (c_need l z G hG iv82 jv B n 0 (nx B n (nx B n t)) hM 58 (by decide)) hG.1.1 hG.1.2 (by decide) rfl ⟨Nat.le_of_ble_eq_true rfl, Nat.le_of_ble_eq_true rfl⟩ rfl hl.1 (by simp [Value.category]) dX11_readInput_88 ⟨Nat.le_of_ble_eq_true rfl, Nat.le_of_ble_eq_true rfl⟩ (fun G88 iv88 jv88 H locs hp88 hH => ?_)
          obtain ⟨rfl, rfl, hM, hF88⟩ := hp88
          have hFr := hFr.tr (hF88.mono (fun _ _ h => Or.inl h))
          have h10 : iv88 10 (6 * T + i) = nI 0 := (hF88 10 _ (by simp)).trans h10
          have hSW := hSW82.fr hF88 (by simp) (fun j hj => by simp)
          by_cases h58 : tk (nx B n (nx B n t)) = 2 ∧ ts (nx B n (nx B n t)) = 58
          · rw [nd, if_neg (by simp), if_pos h58] at hM
            refine rg_loop (σ := IV × List Wd × Tok) (nL := 6) (fun (u : IV × List Wd × Tok) => match u with | (iv2, acc, t3) => 8 - acc.length) (fun (u : IV × List Wd × Tok) => match u with | (iv2, acc, t3) => [(0, .ref (G.ad 0)), (1, .int (nI T)), (2, .int (nI i)), (3, .int (nI ahead)), (4, .int (nI (6 * T + i)))]) (fun (u : IV × List Wd × Tok) => match u with | (iv2, acc, t3) => G) (fun (u : IV × List Wd × Tok) => match u with | (iv2, acc, t3) => iv2) (fun (u : IV × List Wd × Tok) => match u with | (iv2, acc, t3) => jv) (fun (u : IV × List Wd × Tok) => match u with | (iv2, acc, t3) => MP iv2 B n 0 t3 ∧ VS iv2 T i acc ∧ SW iv2 (42 * T + 7 * i + 0) (wd B (nx B n t)) ∧ Fr iv iv2 (pC T i) ∧ rdVals B n ahead (8 - acc.length) acc t3 = rdVals B n ahead 8 [] (nx B n (nx B n (nx B n t)))) ?_ ((iv88, [], nx B n (nx B n (nx B n t)))) ⟨hM, ⟨h10, by simp, fun v hv => absurd hv (Nat.not_lt_zero v)⟩, hSW, hFr, rfl⟩ (lv_sub hl [0, 1, 2, 3, 4] rfl) hH
            rintro ⟨iv2, acc, t3⟩ H locs ls ⟨hM, hV, hSW, hFr, hrv⟩ hl hH ih91
            try dsimp only at hl hH ih91
            try dsimp only at hM hV hSW hFr hrv
            have hal := hV.2.1
            have hcol := rdCol_4 (ahead := ahead) hf0 hin h58
            rw [← hrv, rdVals_go hal] at hcol
            rw [rdVals_go hal] at hrv
            refine lv_aload_n hE.1 hE.2.1 dX11_readInput_91 rfl (lv_at hl 0 rfl) ?_
            refine rm_geti hE hH hG fl_X11_131 rfl (v := nI 0) (hM.2.2.2.1) dX11_readInput_92 ?_
            refine rn_if_ne (tgt := 217) hE dX11_readInput_95 (by decide) (by omega) (fun c95 => ?_) (fun c95 => ?_)
            · omega
            · refine lv_aload_n hE.1 hE.2.1 dX11_readInput_98 rfl (lv_at hl 0 rfl) ?_
              refine rm_getr hE hH hG fl_X11_26 rfl (by decide) dX11_readInput_99 ?_
              refine lv_iload hE.1 hE.2.1 dX11_readInput_102 (lv_at hl 4 rfl) ?_
              refine rm_iald hE hH hG (k := 10) (by decide) rfl (N := 36) rfl (n := 6 * T + i) (by omega) (v := nI acc.length) (hV.1) dX11_readInput_104 ?_
              refine lv_iconst (v := nI 2) hE.1 hE.2.1 dX11_readInput_105 (by decide) ?_
              refine rn_icmp_lt (tgt := 118) hE dX11_readInput_106 (by decide) (by omega) (by omega) (fun c106 => ?_) (fun c106 => ?_)
              · have hns : ¬ (2 ≤ acc.length ∧ tk t3 = 2 ∧ ts t3 = 59) := by omega
                rw [if_neg hns] at hcol hrv
                refine lv_aload_n hE.1 hE.2.1 dX11_readInput_118 rfl (lv_at hl 0 rfl) ?_
                refine rg_VI (As := []) (rest := []) hE hml hH mc_X11_186 (c_free l z G hG iv2 jv B n 0 t3 hM) hG.1.1 hG.1.2 (by decide) rfl ⟨Nat.le_of_ble_eq_true rfl, Nat.le_of_ble_eq_true rfl⟩ rfl hl.1 (by simp [Value.category]) dX11_readInput_119 ⟨Nat.le_of_ble_eq_true rfl, Nat.le_of_ble_eq_true rfl⟩ (fun r119 G119 iv119 jv119 H locs hp119 hH => ?_)
                obtain ⟨rfl, rfl, rfl, hM, hF119⟩ := hp119
                have hFr := hFr.tr (hF119.mono (fun _ _ h => Or.inl h))
                refine rn_ifb_ne (tgt := 126) hE dX11_readInput_122 (by decide) (fun c122 => ?_) (fun c122 => ?_)
                · obtain ⟨-, hf3⟩ := of_decide_eq_true c122
                  rw [fb, if_pos rfl, hf3] at hM
                  rw [if_neg (by simp [hf3])] at hcol hrv
                  have hV := hV.fr hF119 (by simp) (fun _ _ => by simp) (fun _ _ _ _ => by simp)
                  have hSW := hSW.fr hF119 (by simp) (fun j hj => by simp)
                  have hf33 := frF_0 hf3
                  refine lv_aload_n hE.1 hE.2.1 dX11_readInput_126 rfl (lv_at hl 0 rfl) ?_
                  refine rm_getr hE hH hG fl_X11_26 rfl (by decide) dX11_readInput_127 ?_
                  refine lv_iload hE.1 hE.2.1 dX11_readInput_130 (lv_at hl 4 rfl) ?_
                  refine rm_iald hE hH hG (k := 10) (by decide) rfl (N := 36) rfl (n := 6 * T + i) (by omega) (v := nI acc.length) (hV.1) dX11_readInput_132 ?_
                  refine lv_istore (lv' := [(5, .int (nI acc.length)), (0, .ref (G.ad 0)), (1, .int (nI T)), (2, .int (nI i)), (3, .int (nI ahead)), (4, .int (nI (6 * T + i)))]) hE.1 hE.2.1 dX11_readInput_133 hl (by decide) rfl (fun ls hl => ?_)
                  refine lv_iload hE.1 hE.2.1 dX11_readInput_135 (lv_at hl 0 rfl) ?_
                  refine lv_bipush (v := nI 6) hE.1 hE.2.1 dX11_readInput_137 (by decide) ?_
                  refine rn_icmp_eq (tgt := 159) hE dX11_readInput_139 (by decide) (by omega) (by omega) (fun c139 => ?_) (fun c139 => ?_)
                  · rw [if_pos (Or.inl c139)] at hcol
                    refine lv_aload_n hE.1 hE.2.1 dX11_readInput_159 rfl (lv_at hl 1 rfl) ?_
                    refine lv_iconst (v := nI 2) hE.1 hE.2.1 dX11_readInput_160 (by decide) ?_
                    refine rg_VV (As := [.int (nI 2)]) (rest := []) hE hml hH mc_X11_168 (c_wrong l z G hG iv119 jv B n 0 t3 hM 2 (by decide)) hG.1.1 hG.1.2 (by decide) rfl ⟨Nat.le_of_ble_eq_true rfl, Nat.le_of_ble_eq_true rfl⟩ rfl hl.1 (by simp [Value.category]) dX11_readInput_161 ⟨Nat.le_of_ble_eq_true rfl, Nat.le_of_ble_eq_true rfl⟩ (fun G161 iv161 jv161 H locs hp161 hH => ?_)
                    obtain ⟨rfl, rfl, hM, hF161⟩ := hp161
                    rw [if_pos rfl] at hM
                    have hFr := hFr.tr (hF161.mono (fun _ _ h => Or.inl h))
                    refine lv_goto (tgt := 182) hE.1 hE.2.1 dX11_readInput_164 (by decide) ?_
                    refine lv_aload_n hE.1 hE.2.1 dX11_readInput_182 rfl (lv_at hl 1 rfl) ?_
                    refine rm_geti hE hH hG fl_X11_131 rfl (v := nI 2) (hM.2.2.2.1) dX11_readInput_183 ?_
                    refine rn_if_eq (tgt := 190) hE dX11_readInput_186 (by decide) (by omega) (fun c186 => ?_) (fun c186 => ?_)
                    · omega
                    · exact rg_vret hE hr hlk hH ⟨rfl, rfl, by rw [hcol]; exact ⟨hM, fun h => absurd h (by simp)⟩, hFr⟩ dX11_readInput_189
                  · refine lv_iload_n hE.1 hE.2.1 dX11_readInput_142 rfl (lv_at hl 3 rfl) ?_
                    refine lv_iconst (v := nI 5) hE.1 hE.2.1 dX11_readInput_143 (by decide) ?_
                    refine rn_icmp_ge (tgt := 167) hE dX11_readInput_144 (by decide) (by omega) (by omega) (fun c144 => ?_) (fun c144 => ?_)
                    · have hah0 : ahead = 0 := hout (by omega)
                      have h4c : ¬ (acc.length = 6 ∨ 400 < ahead * (acc.length + 1)) := by rw [hah0]; omega
                      rw [if_neg h4c] at hcol hrv
                      refine lv_aload_n hE.1 hE.2.1 dX11_readInput_167 rfl (lv_at hl 1 rfl) ?_
                      refine lv_iload_n hE.1 hE.2.1 dX11_readInput_168 rfl (lv_at hl 2 rfl) ?_
                      refine lv_iload_n hE.1 hE.2.1 dX11_readInput_169 rfl (lv_at hl 3 rfl) ?_
                      refine rg_VI (As := [.int (nI T), .int (nI i)]) (rest := []) hE hml hH mc_X11_189 (c_valueNow l z G hG iv119 jv B n 0 t3 hM T i hT hi acc hV) hG.1.1 hG.1.2 (by decide) rfl ⟨Nat.le_of_ble_eq_true rfl, Nat.le_of_ble_eq_true rfl⟩ rfl hl.1 (by simp [Value.category]) dX11_readInput_170 ⟨Nat.le_of_ble_eq_true rfl, Nat.le_of_ble_eq_true rfl⟩ (fun r170 G170 iv170 jv170 H locs hp170 hH => ?_)
                      obtain ⟨rfl, rfl, rfl, rfl⟩ := hp170
                      refine lv_iconst (v := -1) hE.1 hE.2.1 dX11_readInput_173 (by decide) ?_
                      refine lv_icmp_eq (tgt := 182) hE.1 hE.2.1 dX11_readInput_174 (by decide) (fun c174 => ?_) (fun c174 => ?_)
                      · rw [oI_m1 (fun k hk => by have := (ixW_lt hk).1; omega), ixW_eq_none] at c174
                        rw [if_neg c174] at hcol hrv
                        refine lv_aload_n hE.1 hE.2.1 dX11_readInput_182 rfl (lv_at hl 1 rfl) ?_
                        refine rm_geti hE hH hG fl_X11_131 rfl (v := nI 0) (hM.2.2.2.1) dX11_readInput_183 ?_
                        refine rn_if_eq (tgt := 190) hE dX11_readInput_186 (by decide) (by omega) (fun c186 => ?_) (fun c186 => ?_)
                        · refine lv_aload_n hE.1 hE.2.1 dX11_readInput_190 rfl (lv_at hl 1 rfl) ?_
                          refine rm_getr hE hH hG fl_X11_26 rfl (by decide) dX11_readInput_191 ?_
                          refine lv_iload hE.1 hE.2.1 dX11_readInput_194 (lv_at hl 5 rfl) ?_
                          refine lv_iload hE.1 hE.2.1 dX11_readInput_196 (lv_at hl 0 rfl) ?_
                          refine lv_iconst (v := nI 1) hE.1 hE.2.1 dX11_readInput_198 (by decide) ?_
                          refine rn_iadd hE dX11_readInput_199 ?_
                          refine rm_iast hE hH hG (k := 10) (by decide) rfl (N := 36) rfl (n := 6 * T + i) (by omega) (v := nI (acc.length + 1)) dX11_readInput_200 (fun H locs hH => ?_)
                          have hM := hM.up 10 (6 * T + i) (nI (acc.length + 1)) (by decide) (by decide)
                          have hFr : Fr iv (up2 iv119 10 (6 * T + i) (nI (acc.length + 1))) (pC T i) := Fr.up hFr (Or.inr (Or.inl ⟨rfl, rfl⟩))
                          have hw11 : ∀ v, v < acc.length → SW (up2 iv119 10 (6 * T + i) (nI (acc.length + 1))) (42 * T + 7 * i + (1 + v)) (acc.getD v []) := fun v hv => (hV.2.2 v hv).fr (P := fun lb _ => lb = 10) (Fr.up Fr.rf rfl) (by simp) (fun _ _ => by simp)
                          have hSW := hSW.fr (P := fun lb _ => lb = 10) (iv' := up2 iv119 10 (6 * T + i) (nI (acc.length + 1))) (Fr.up Fr.rf rfl) (by simp) (fun _ _ => by simp)
                          refine lv_aload_n hE.1 hE.2.1 dX11_readInput_201 rfl (lv_at hl 1 rfl) ?_
                          refine lv_iload_n hE.1 hE.2.1 dX11_readInput_202 rfl (lv_at hl 2 rfl) ?_
                          refine lv_iload_n hE.1 hE.2.1 dX11_readInput_203 rfl (lv_at hl 3 rfl) ?_
                          refine lv_iconst (v := nI 1) hE.1 hE.2.1 dX11_readInput_204 (by decide) ?_
                          refine lv_iload hE.1 hE.2.1 dX11_readInput_205 (lv_at hl 0 rfl) ?_
                          refine rn_iadd hE dX11_readInput_207 ?_
                          refine rg_SI (As := [.int (nI T), .int (nI i), .int (nI (1 + acc.length))]) (rest := [.ref (G.ad 0)]) hE hml hH mc_X11_179 (c_wordAt l z G hG (up2 iv119 10 (6 * T + i) (nI (acc.length + 1))) jv T i (1 + acc.length)) rfl ⟨Nat.le_of_ble_eq_true rfl, Nat.le_of_ble_eq_true rfl⟩ rfl hl.1 (by simp [Value.category]) dX11_readInput_208 ⟨Nat.le_of_ble_eq_true rfl, Nat.le_of_ble_eq_true rfl⟩ (fun r208 G208 iv208 jv208 H locs hp208 hH => ?_)
                          obtain ⟨rfl, rfl, rfl, rfl⟩ := hp208
                          refine rg_VV (As := [.int (nI (42 * T + 7 * i + (1 + acc.length)))]) (rest := []) hE hml hH mc_X11_193 (c_keepWord l z G hG (up2 iv119 10 (6 * T + i) (nI (acc.length + 1))) jv B n t3 hM hf33.2.2 (42 * T + 7 * i + (1 + acc.length)) (by omega)) hG.1.1 hG.1.2 (by decide) rfl ⟨Nat.le_of_ble_eq_true rfl, Nat.le_of_ble_eq_true rfl⟩ rfl hl.1 (by simp [Value.category]) dX11_readInput_211 ⟨Nat.le_of_ble_eq_true rfl, Nat.le_of_ble_eq_true rfl⟩ (fun G211 iv211 jv211 H locs hp211 hH => ?_)
                          obtain ⟨rfl, rfl, hM, hSW211, hF211⟩ := hp211
                          have hFr := hFr.tr (hF211.mono (pK_pC (by omega) (by omega)))
                          have hSW := hSW.fr hF211 (by simp) (fun j hj => by simp only [pK]; omega)
                          have hV2 : VS iv211 T i (acc ++ [wd B t3]) := by
                            refine ⟨?_, by simp; omega, fun v hv => ?_⟩
                            · rw [hF211 10 _ (by simp), List.length_append]; exact up2_s
                            · by_cases hv2 : v < acc.length
                              · rw [getD_app_lt hv2]
                                exact (hw11 v hv2).fr hF211 (by simp only [pK]; omega) (fun j hj => by simp only [pK]; omega)
                              · have hv3 : v = acc.length := by simp at hv; omega
                                subst hv3
                                rw [getD_app_eq]; exact hSW211
                          refine lv_goto (tgt := 91) hE.1 hE.2.1 dX11_readInput_214 (by decide) ?_
                          exact ih91 (iv211, acc ++ [wd B t3], nx B n t3) _ _ _ (show 8 - (acc ++ [wd B t3]).length < 8 - acc.length by simp; omega) ⟨hM, hV2, hSW, hFr, hrv⟩ (lv_sub hl [1, 2, 3, 4, 5] rfl) hH
                        · omega
                      · rw [oI_m1 (fun k hk => by have := (ixW_lt hk).1; omega), ixW_eq_none, Classical.not_not] at c174
                        rw [if_pos c174] at hcol
                        refine lv_aload_n hE.1 hE.2.1 dX11_readInput_177 rfl (lv_at hl 1 rfl) ?_
                        refine lv_iconst (v := nI 4) hE.1 hE.2.1 dX11_readInput_178 (by decide) ?_
                        refine rg_VV (As := [.int (nI 4)]) (rest := []) hE hml hH mc_X11_168 (c_wrong l z G hG iv119 jv B n 0 t3 hM 4 (by decide)) hG.1.1 hG.1.2 (by decide) rfl ⟨Nat.le_of_ble_eq_true rfl, Nat.le_of_ble_eq_true rfl⟩ rfl hl.1 (by simp [Value.category]) dX11_readInput_179 ⟨Nat.le_of_ble_eq_true rfl, Nat.le_of_ble_eq_true rfl⟩ (fun G179 iv179 jv179 H locs hp179 hH => ?_)
                        obtain ⟨rfl, rfl, hM, hF179⟩ := hp179
                        rw [if_pos rfl] at hM
                        have hFr := hFr.tr (hF179.mono (fun _ _ h => Or.inl h))
                        refine lv_aload_n hE.1 hE.2.1 dX11_readInput_182 rfl (lv_at hl 1 rfl) ?_
                        refine rm_geti hE hH hG fl_X11_131 rfl (v := nI 4) (hM.2.2.2.1) dX11_readInput_183 ?_
                        refine rn_if_eq (tgt := 190) hE dX11_readInput_186 (by decide) (by omega) (fun c186 => ?_) (fun c186 => ?_)
                        · omega
                        · exact rg_vret hE hr hlk hH ⟨rfl, rfl, by rw [hcol]; exact ⟨hM, fun h => absurd h (by simp)⟩, hFr⟩ dX11_readInput_189
                    · refine lv_iload_n hE.1 hE.2.1 dX11_readInput_147 rfl (lv_at hl 4 rfl) ?_
                      refine lv_iload hE.1 hE.2.1 dX11_readInput_148 (lv_at hl 0 rfl) ?_
                      refine lv_iconst (v := nI 1) hE.1 hE.2.1 dX11_readInput_150 (by decide) ?_
                      refine rn_iadd hE dX11_readInput_151 ?_
                      refine rn_imul hE dX11_readInput_152 ?_
                      refine lv_sipush (v := nI 400) hE.1 hE.2.1 dX11_readInput_153 (by decide) ?_
                      refine rn_icmp_le (tgt := 167) hE dX11_readInput_156 (by decide) (by have := Nat.mul_le_mul hah (show acc.length + 1 ≤ 7 by omega); omega) (by have := Nat.mul_le_mul hah (show acc.length + 1 ≤ 7 by omega); omega) (fun c156 => ?_) (fun c156 => ?_)
                      · have h4c : ¬ (acc.length = 6 ∨ 400 < ahead * (acc.length + 1)) := by omega
                        rw [if_neg h4c] at hcol hrv
                        refine lv_aload_n hE.1 hE.2.1 dX11_readInput_167 rfl (lv_at hl 1 rfl) ?_
                        refine lv_iload_n hE.1 hE.2.1 dX11_readInput_168 rfl (lv_at hl 2 rfl) ?_
                        refine lv_iload_n hE.1 hE.2.1 dX11_readInput_169 rfl (lv_at hl 3 rfl) ?_
                        refine rg_VI (As := [.int (nI T), .int (nI i)]) (rest := []) hE hml hH mc_X11_189 (c_valueNow l z G hG iv119 jv B n 0 t3 hM T i hT hi acc hV) hG.1.1 hG.1.2 (by decide) rfl ⟨Nat.le_of_ble_eq_true rfl, Nat.le_of_ble_eq_true rfl⟩ rfl hl.1 (by simp [Value.category]) dX11_readInput_170 ⟨Nat.le_of_ble_eq_true rfl, Nat.le_of_ble_eq_true rfl⟩ (fun r170 G170 iv170 jv170 H locs hp170 hH => ?_)
                        obtain ⟨rfl, rfl, rfl, rfl⟩ := hp170
                        refine lv_iconst (v := -1) hE.1 hE.2.1 dX11_readInput_173 (by decide) ?_
                        refine lv_icmp_eq (tgt := 182) hE.1 hE.2.1 dX11_readInput_174 (by decide) (fun c174 => ?_) (fun c174 => ?_)
                        · rw [oI_m1 (fun k hk => by have := (ixW_lt hk).1; omega), ixW_eq_none] at c174
                          rw [if_neg c174] at hcol hrv
                          refine lv_aload_n hE.1 hE.2.1 dX11_readInput_182 rfl (lv_at hl 1 rfl) ?_
                          refine rm_geti hE hH hG fl_X11_131 rfl (v := nI 0) (hM.2.2.2.1) dX11_readInput_183 ?_
                          refine rn_if_eq (tgt := 190) hE dX11_readInput_186 (by decide) (by omega) (fun c186 => ?_) (fun c186 => ?_)
                          · refine lv_aload_n hE.1 hE.2.1 dX11_readInput_190 rfl (lv_at hl 1 rfl) ?_
                            refine rm_getr hE hH hG fl_X11_26 rfl (by decide) dX11_readInput_191 ?_
                            refine lv_iload hE.1 hE.2.1 dX11_readInput_194 (lv_at hl 5 rfl) ?_
                            refine lv_iload hE.1 hE.2.1 dX11_readInput_196 (lv_at hl 0 rfl) ?_
                            refine lv_iconst (v := nI 1) hE.1 hE.2.1 dX11_readInput_198 (by decide) ?_
                            refine rn_iadd hE dX11_readInput_199 ?_
                            refine rm_iast hE hH hG (k := 10) (by decide) rfl (N := 36) rfl (n := 6 * T + i) (by omega) (v := nI (acc.length + 1)) dX11_readInput_200 (fun H locs hH => ?_)
                            have hM := hM.up 10 (6 * T + i) (nI (acc.length + 1)) (by decide) (by decide)
                            have hFr : Fr iv (up2 iv119 10 (6 * T + i) (nI (acc.length + 1))) (pC T i) := Fr.up hFr (Or.inr (Or.inl ⟨rfl, rfl⟩))
                            have hw11 : ∀ v, v < acc.length → SW (up2 iv119 10 (6 * T + i) (nI (acc.length + 1))) (42 * T + 7 * i + (1 + v)) (acc.getD v []) := fun v hv => (hV.2.2 v hv).fr (P := fun lb _ => lb = 10) (Fr.up Fr.rf rfl) (by simp) (fun _ _ => by simp)
                            have hSW := hSW.fr (P := fun lb _ => lb = 10) (iv' := up2 iv119 10 (6 * T + i) (nI (acc.length + 1))) (Fr.up Fr.rf rfl) (by simp) (fun _ _ => by simp)
                            refine lv_aload_n hE.1 hE.2.1 dX11_readInput_201 rfl (lv_at hl 1 rfl) ?_
                            refine lv_iload_n hE.1 hE.2.1 dX11_readInput_202 rfl (lv_at hl 2 rfl) ?_
                            refine lv_iload_n hE.1 hE.2.1 dX11_readInput_203 rfl (lv_at hl 3 rfl) ?_
                            refine lv_iconst (v := nI 1) hE.1 hE.2.1 dX11_readInput_204 (by decide) ?_
                            refine lv_iload hE.1 hE.2.1 dX11_readInput_205 (lv_at hl 0 rfl) ?_
                            refine rn_iadd hE dX11_readInput_207 ?_
                            refine rg_SI (As := [.int (nI T), .int (nI i), .int (nI (1 + acc.length))]) (rest := [.ref (G.ad 0)]) hE hml hH mc_X11_179 (c_wordAt l z G hG (up2 iv119 10 (6 * T + i) (nI (acc.length + 1))) jv T i (1 + acc.length)) rfl ⟨Nat.le_of_ble_eq_true rfl, Nat.le_of_ble_eq_true rfl⟩ rfl hl.1 (by simp [Value.category]) dX11_readInput_208 ⟨Nat.le_of_ble_eq_true rfl, Nat.le_of_ble_eq_true rfl⟩ (fun r208 G208 iv208 jv208 H locs hp208 hH => ?_)
                            obtain ⟨rfl, rfl, rfl, rfl⟩ := hp208
                            refine rg_VV (As := [.int (nI (42 * T + 7 * i + (1 + acc.length)))]) (rest := []) hE hml hH mc_X11_193 (c_keepWord l z G hG (up2 iv119 10 (6 * T + i) (nI (acc.length + 1))) jv B n t3 hM hf33.2.2 (42 * T + 7 * i + (1 + acc.length)) (by omega)) hG.1.1 hG.1.2 (by decide) rfl ⟨Nat.le_of_ble_eq_true rfl, Nat.le_of_ble_eq_true rfl⟩ rfl hl.1 (by simp [Value.category]) dX11_readInput_211 ⟨Nat.le_of_ble_eq_true rfl, Nat.le_of_ble_eq_true rfl⟩ (fun G211 iv211 jv211 H locs hp211 hH => ?_)
                            obtain ⟨rfl, rfl, hM, hSW211, hF211⟩ := hp211
                            have hFr := hFr.tr (hF211.mono (pK_pC (by omega) (by omega)))
                            have hSW := hSW.fr hF211 (by simp) (fun j hj => by simp only [pK]; omega)
                            have hV2 : VS iv211 T i (acc ++ [wd B t3]) := by
                              refine ⟨?_, by simp; omega, fun v hv => ?_⟩
                              · rw [hF211 10 _ (by simp), List.length_append]; exact up2_s
                              · by_cases hv2 : v < acc.length
                                · rw [getD_app_lt hv2]
                                  exact (hw11 v hv2).fr hF211 (by simp only [pK]; omega) (fun j hj => by simp only [pK]; omega)
                                · have hv3 : v = acc.length := by simp at hv; omega
                                  subst hv3
                                  rw [getD_app_eq]; exact hSW211
                            refine lv_goto (tgt := 91) hE.1 hE.2.1 dX11_readInput_214 (by decide) ?_
                            exact ih91 (iv211, acc ++ [wd B t3], nx B n t3) _ _ _ (show 8 - (acc ++ [wd B t3]).length < 8 - acc.length by simp; omega) ⟨hM, hV2, hSW, hFr, hrv⟩ (lv_sub hl [1, 2, 3, 4, 5] rfl) hH
                          · omega
                        · rw [oI_m1 (fun k hk => by have := (ixW_lt hk).1; omega), ixW_eq_none, Classical.not_not] at c174
                          rw [if_pos c174] at hcol
                          refine lv_aload_n hE.1 hE.2.1 dX11_readInput_177 rfl (lv_at hl 1 rfl) ?_
                          refine lv_iconst (v := nI 4) hE.1 hE.2.1 dX11_readInput_178 (by decide) ?_
                          refine rg_VV (As := [.int (nI 4)]) (rest := []) hE hml hH mc_X11_168 (c_wrong l z G hG iv119 jv B n 0 t3 hM 4 (by decide)) hG.1.1 hG.1.2 (by decide) rfl ⟨Nat.le_of_ble_eq_true rfl, Nat.le_of_ble_eq_true rfl⟩ rfl hl.1 (by simp [Value.category]) dX11_readInput_179 ⟨Nat.le_of_ble_eq_true rfl, Nat.le_of_ble_eq_true rfl⟩ (fun G179 iv179 jv179 H locs hp179 hH => ?_)
                          obtain ⟨rfl, rfl, hM, hF179⟩ := hp179
                          rw [if_pos rfl] at hM
                          have hFr := hFr.tr (hF179.mono (fun _ _ h => Or.inl h))
                          refine lv_aload_n hE.1 hE.2.1 dX11_readInput_182 rfl (lv_at hl 1 rfl) ?_
                          refine rm_geti hE hH hG fl_X11_131 rfl (v := nI 4) (hM.2.2.2.1) dX11_readInput_183 ?_
                          refine rn_if_eq (tgt := 190) hE dX11_readInput_186 (by decide) (by omega) (fun c186 => ?_) (fun c186 => ?_)
                          · omega
                          · exact rg_vret hE hr hlk hH ⟨rfl, rfl, by rw [hcol]; exact ⟨hM, fun h => absurd h (by simp)⟩, hFr⟩ dX11_readInput_189
                      · rw [if_pos (Or.inr c156)] at hcol
                        refine lv_aload_n hE.1 hE.2.1 dX11_readInput_159 rfl (lv_at hl 1 rfl) ?_
                        refine lv_iconst (v := nI 2) hE.1 hE.2.1 dX11_readInput_160 (by decide) ?_
                        refine rg_VV (As := [.int (nI 2)]) (rest := []) hE hml hH mc_X11_168 (c_wrong l z G hG iv119 jv B n 0 t3 hM 2 (by decide)) hG.1.1 hG.1.2 (by decide) rfl ⟨Nat.le_of_ble_eq_true rfl, Nat.le_of_ble_eq_true rfl⟩ rfl hl.1 (by simp [Value.category]) dX11_readInput_161 ⟨Nat.le_of_ble_eq_true rfl, Nat.le_of_ble_eq_true rfl⟩ (fun G161 iv161 jv161 H locs hp161 hH => ?_)
                        obtain ⟨rfl, rfl, hM, hF161⟩ := hp161
                        rw [if_pos rfl] at hM
                        have hFr := hFr.tr (hF161.mono (fun _ _ h => Or.inl h))
                        refine lv_goto (tgt := 182) hE.1 hE.2.1 dX11_readInput_164 (by decide) ?_
                        refine lv_aload_n hE.1 hE.2.1 dX11_readInput_182 rfl (lv_at hl 1 rfl) ?_
                        refine rm_geti hE hH hG fl_X11_131 rfl (v := nI 2) (hM.2.2.2.1) dX11_readInput_183 ?_
                        refine rn_if_eq (tgt := 190) hE dX11_readInput_186 (by decide) (by omega) (fun c186 => ?_) (fun c186 => ?_)
                        · omega
                        · exact rg_vret hE hr hlk hH ⟨rfl, rfl, by rw [hcol]; exact ⟨hM, fun h => absurd h (by simp)⟩, hFr⟩ dX11_readInput_189
                · have hfn3 : frF B t3 ≠ 0 := fun h => (of_decide_eq_false c122) ⟨rfl, h⟩
                  rw [fb, if_pos rfl] at hM
                  rw [if_pos hfn3] at hcol
                  exact rg_vret hE hr hlk hH ⟨rfl, rfl, by rw [hcol]; exact ⟨hM, fun h => absurd h hfn3⟩, hFr⟩ dX11_readInput_125
              · refine lv_aload_n hE.1 hE.2.1 dX11_readInput_109 rfl (lv_at hl 0 rfl) ?_
                refine lv_bipush (v := nI 59) hE.1 hE.2.1 dX11_readInput_110 (by decide) ?_
                refine rg_VI (As := [.int (nI 59)]) (rest := []) hE hml hH mc_X11_165 (c_isSign l z G hG iv2 jv B n 0 t3 hM 59 (by decide)) hG.1.1 hG.1.2 (by decide) rfl ⟨Nat.le_of_ble_eq_true rfl, Nat.le_of_ble_eq_true rfl⟩ rfl hl.1 (by simp [Value.category]) dX11_readInput_112 ⟨Nat.le_of_ble_eq_true rfl, Nat.le_of_ble_eq_true rfl⟩ (fun r112 G112 iv112 jv112 H locs hp112 hH => ?_)
                obtain ⟨rfl, rfl, rfl, rfl⟩ := hp112
                refine rn_ifb_ne (tgt := 217) hE dX11_readInput_115 (by decide) (fun c115 => ?_) (fun c115 => ?_)
                · have hs59 := of_decide_eq_true c115
                  rw [if_pos ⟨c106, hs59.2⟩] at hcol
                  refine lv_aload_n hE.1 hE.2.1 dX11_readInput_217 rfl (lv_at hl 0 rfl) ?_
                  refine lv_bipush (v := nI 59) hE.1 hE.2.1 dX11_readInput_218 (by decide) ?_
                  refine rg_VV (As := [.int (nI 59)]) (rest := []) hE hml hH mc_X11_196 (c_need l z G hG iv2 jv B n 0 t3 hM 59 (by decide)) hG.1.1 hG.1.2 (by decide) rfl ⟨Nat.le_of_ble_eq_true rfl, Nat.le_of_ble_eq_true rfl⟩ rfl hl.1 (by simp [Value.category]) dX11_readInput_220 ⟨Nat.le_of_ble_eq_true rfl, Nat.le_of_ble_eq_true rfl⟩ (fun G220 iv220 jv220 H locs hp220 hH => ?_)
                  obtain ⟨rfl, rfl, hM, hF220⟩ := hp220
                  have hFr := hFr.tr (hF220.mono (fun _ _ h => Or.inl h))
                  rw [nd, if_neg (by simp), if_pos hs59.2] at hM
                  exact rg_vret hE hr hlk hH ⟨rfl, rfl, by rw [hcol]; exact ⟨hM, fun _ => ⟨hSW.fr hF220 (by simp) (fun j hj => by simp), hV.fr hF220 (by simp) (fun _ _ => by simp) (fun _ _ _ _ => by simp)⟩⟩, hFr⟩ dX11_readInput_223
                · have hns : ¬ (2 ≤ acc.length ∧ tk t3 = 2 ∧ ts t3 = 59) := fun h => (of_decide_eq_false c115) ⟨rfl, h.2⟩
                  rw [if_neg hns] at hcol hrv
                  refine lv_aload_n hE.1 hE.2.1 dX11_readInput_118 rfl (lv_at hl 0 rfl) ?_
                  refine rg_VI (As := []) (rest := []) hE hml hH mc_X11_186 (c_free l z G hG iv2 jv B n 0 t3 hM) hG.1.1 hG.1.2 (by decide) rfl ⟨Nat.le_of_ble_eq_true rfl, Nat.le_of_ble_eq_true rfl⟩ rfl hl.1 (by simp [Value.category]) dX11_readInput_119 ⟨Nat.le_of_ble_eq_true rfl, Nat.le_of_ble_eq_true rfl⟩ (fun r119 G119 iv119 jv119 H locs hp119 hH => ?_)
                  obtain ⟨rfl, rfl, rfl, hM, hF119⟩ := hp119
                  have hFr := hFr.tr (hF119.mono (fun _ _ h => Or.inl h))
                  refine rn_ifb_ne (tgt := 126) hE dX11_readInput_122 (by decide) (fun c122 => ?_) (fun c122 => ?_)
                  · obtain ⟨-, hf3⟩ := of_decide_eq_true c122
                    rw [fb, if_pos rfl, hf3] at hM
                    rw [if_neg (by simp [hf3])] at hcol hrv
                    have hV := hV.fr hF119 (by simp) (fun _ _ => by simp) (fun _ _ _ _ => by simp)
                    have hSW := hSW.fr hF119 (by simp) (fun j hj => by simp)
                    have hf33 := frF_0 hf3
                    refine lv_aload_n hE.1 hE.2.1 dX11_readInput_126 rfl (lv_at hl 0 rfl) ?_
                    refine rm_getr hE hH hG fl_X11_26 rfl (by decide) dX11_readInput_127 ?_
                    refine lv_iload hE.1 hE.2.1 dX11_readInput_130 (lv_at hl 4 rfl) ?_
                    refine rm_iald hE hH hG (k := 10) (by decide) rfl (N := 36) rfl (n := 6 * T + i) (by omega) (v := nI acc.length) (hV.1) dX11_readInput_132 ?_
                    refine lv_istore (lv' := [(5, .int (nI acc.length)), (0, .ref (G.ad 0)), (1, .int (nI T)), (2, .int (nI i)), (3, .int (nI ahead)), (4, .int (nI (6 * T + i)))]) hE.1 hE.2.1 dX11_readInput_133 hl (by decide) rfl (fun ls hl => ?_)
                    refine lv_iload hE.1 hE.2.1 dX11_readInput_135 (lv_at hl 0 rfl) ?_
                    refine lv_bipush (v := nI 6) hE.1 hE.2.1 dX11_readInput_137 (by decide) ?_
                    refine rn_icmp_eq (tgt := 159) hE dX11_readInput_139 (by decide) (by omega) (by omega) (fun c139 => ?_) (fun c139 => ?_)
                    · rw [if_pos (Or.inl c139)] at hcol
                      refine lv_aload_n hE.1 hE.2.1 dX11_readInput_159 rfl (lv_at hl 1 rfl) ?_
                      refine lv_iconst (v := nI 2) hE.1 hE.2.1 dX11_readInput_160 (by decide) ?_
                      refine rg_VV (As := [.int (nI 2)]) (rest := []) hE hml hH mc_X11_168 (c_wrong l z G hG iv119 jv B n 0 t3 hM 2 (by decide)) hG.1.1 hG.1.2 (by decide) rfl ⟨Nat.le_of_ble_eq_true rfl, Nat.le_of_ble_eq_true rfl⟩ rfl hl.1 (by simp [Value.category]) dX11_readInput_161 ⟨Nat.le_of_ble_eq_true rfl, Nat.le_of_ble_eq_true rfl⟩ (fun G161 iv161 jv161 H locs hp161 hH => ?_)
                      obtain ⟨rfl, rfl, hM, hF161⟩ := hp161
                      rw [if_pos rfl] at hM
                      have hFr := hFr.tr (hF161.mono (fun _ _ h => Or.inl h))
                      refine lv_goto (tgt := 182) hE.1 hE.2.1 dX11_readInput_164 (by decide) ?_
                      refine lv_aload_n hE.1 hE.2.1 dX11_readInput_182 rfl (lv_at hl 1 rfl) ?_
                      refine rm_geti hE hH hG fl_X11_131 rfl (v := nI 2) (hM.2.2.2.1) dX11_readInput_183 ?_
                      refine rn_if_eq (tgt := 190) hE dX11_readInput_186 (by decide) (by omega) (fun c186 => ?_) (fun c186 => ?_)
                      · omega
                      · exact rg_vret hE hr hlk hH ⟨rfl, rfl, by rw [hcol]; exact ⟨hM, fun h => absurd h (by simp)⟩, hFr⟩ dX11_readInput_189
                    · refine lv_iload_n hE.1 hE.2.1 dX11_readInput_142 rfl (lv_at hl 3 rfl) ?_
                      refine lv_iconst (v := nI 5) hE.1 hE.2.1 dX11_readInput_143 (by decide) ?_
                      refine rn_icmp_ge (tgt := 167) hE dX11_readInput_144 (by decide) (by omega) (by omega) (fun c144 => ?_) (fun c144 => ?_)
                      · have hah0 : ahead = 0 := hout (by omega)
                        have h4c : ¬ (acc.length = 6 ∨ 400 < ahead * (acc.length + 1)) := by rw [hah0]; omega
                        rw [if_neg h4c] at hcol hrv
                        refine lv_aload_n hE.1 hE.2.1 dX11_readInput_167 rfl (lv_at hl 1 rfl) ?_
                        refine lv_iload_n hE.1 hE.2.1 dX11_readInput_168 rfl (lv_at hl 2 rfl) ?_
                        refine lv_iload_n hE.1 hE.2.1 dX11_readInput_169 rfl (lv_at hl 3 rfl) ?_
                        refine rg_VI (As := [.int (nI T), .int (nI i)]) (rest := []) hE hml hH mc_X11_189 (c_valueNow l z G hG iv119 jv B n 0 t3 hM T i hT hi acc hV) hG.1.1 hG.1.2 (by decide) rfl ⟨Nat.le_of_ble_eq_true rfl, Nat.le_of_ble_eq_true rfl⟩ rfl hl.1 (by simp [Value.category]) dX11_readInput_170 ⟨Nat.le_of_ble_eq_true rfl, Nat.le_of_ble_eq_true rfl⟩ (fun r170 G170 iv170 jv170 H locs hp170 hH => ?_)
                        obtain ⟨rfl, rfl, rfl, rfl⟩ := hp170
                        refine lv_iconst (v := -1) hE.1 hE.2.1 dX11_readInput_173 (by decide) ?_
                        refine lv_icmp_eq (tgt := 182) hE.1 hE.2.1 dX11_readInput_174 (by decide) (fun c174 => ?_) (fun c174 => ?_)
                        · rw [oI_m1 (fun k hk => by have := (ixW_lt hk).1; omega), ixW_eq_none] at c174
                          rw [if_neg c174] at hcol hrv
                          refine lv_aload_n hE.1 hE.2.1 dX11_readInput_182 rfl (lv_at hl 1 rfl) ?_
                          refine rm_geti hE hH hG fl_X11_131 rfl (v := nI 0) (hM.2.2.2.1) dX11_readInput_183 ?_
                          refine rn_if_eq (tgt := 190) hE dX11_readInput_186 (by decide) (by omega) (fun c186 => ?_) (fun c186 => ?_)
                          · refine lv_aload_n hE.1 hE.2.1 dX11_readInput_190 rfl (lv_at hl 1 rfl) ?_
                            refine rm_getr hE hH hG fl_X11_26 rfl (by decide) dX11_readInput_191 ?_
                            refine lv_iload hE.1 hE.2.1 dX11_readInput_194 (lv_at hl 5 rfl) ?_
                            refine lv_iload hE.1 hE.2.1 dX11_readInput_196 (lv_at hl 0 rfl) ?_
                            refine lv_iconst (v := nI 1) hE.1 hE.2.1 dX11_readInput_198 (by decide) ?_
                            refine rn_iadd hE dX11_readInput_199 ?_
                            refine rm_iast hE hH hG (k := 10) (by decide) rfl (N := 36) rfl (n := 6 * T + i) (by omega) (v := nI (acc.length + 1)) dX11_readInput_200 (fun H locs hH => ?_)
                            have hM := hM.up 10 (6 * T + i) (nI (acc.length + 1)) (by decide) (by decide)
                            have hFr : Fr iv (up2 iv119 10 (6 * T + i) (nI (acc.length + 1))) (pC T i) := Fr.up hFr (Or.inr (Or.inl ⟨rfl, rfl⟩))
                            have hw11 : ∀ v, v < acc.length → SW (up2 iv119 10 (6 * T + i) (nI (acc.length + 1))) (42 * T + 7 * i + (1 + v)) (acc.getD v []) := fun v hv => (hV.2.2 v hv).fr (P := fun lb _ => lb = 10) (Fr.up Fr.rf rfl) (by simp) (fun _ _ => by simp)
                            have hSW := hSW.fr (P := fun lb _ => lb = 10) (iv' := up2 iv119 10 (6 * T + i) (nI (acc.length + 1))) (Fr.up Fr.rf rfl) (by simp) (fun _ _ => by simp)
                            refine lv_aload_n hE.1 hE.2.1 dX11_readInput_201 rfl (lv_at hl 1 rfl) ?_
                            refine lv_iload_n hE.1 hE.2.1 dX11_readInput_202 rfl (lv_at hl 2 rfl) ?_
                            refine lv_iload_n hE.1 hE.2.1 dX11_readInput_203 rfl (lv_at hl 3 rfl) ?_
                            refine lv_iconst (v := nI 1) hE.1 hE.2.1 dX11_readInput_204 (by decide) ?_
                            refine lv_iload hE.1 hE.2.1 dX11_readInput_205 (lv_at hl 0 rfl) ?_
                            refine rn_iadd hE dX11_readInput_207 ?_
                            refine rg_SI (As := [.int (nI T), .int (nI i), .int (nI (1 + acc.length))]) (rest := [.ref (G.ad 0)]) hE hml hH mc_X11_179 (c_wordAt l z G hG (up2 iv119 10 (6 * T + i) (nI (acc.length + 1))) jv T i (1 + acc.length)) rfl ⟨Nat.le_of_ble_eq_true rfl, Nat.le_of_ble_eq_true rfl⟩ rfl hl.1 (by simp [Value.category]) dX11_readInput_208 ⟨Nat.le_of_ble_eq_true rfl, Nat.le_of_ble_eq_true rfl⟩ (fun r208 G208 iv208 jv208 H locs hp208 hH => ?_)
                            obtain ⟨rfl, rfl, rfl, rfl⟩ := hp208
                            refine rg_VV (As := [.int (nI (42 * T + 7 * i + (1 + acc.length)))]) (rest := []) hE hml hH mc_X11_193 (c_keepWord l z G hG (up2 iv119 10 (6 * T + i) (nI (acc.length + 1))) jv B n t3 hM hf33.2.2 (42 * T + 7 * i + (1 + acc.length)) (by omega)) hG.1.1 hG.1.2 (by decide) rfl ⟨Nat.le_of_ble_eq_true rfl, Nat.le_of_ble_eq_true rfl⟩ rfl hl.1 (by simp [Value.category]) dX11_readInput_211 ⟨Nat.le_of_ble_eq_true rfl, Nat.le_of_ble_eq_true rfl⟩ (fun G211 iv211 jv211 H locs hp211 hH => ?_)
                            obtain ⟨rfl, rfl, hM, hSW211, hF211⟩ := hp211
                            have hFr := hFr.tr (hF211.mono (pK_pC (by omega) (by omega)))
                            have hSW := hSW.fr hF211 (by simp) (fun j hj => by simp only [pK]; omega)
                            have hV2 : VS iv211 T i (acc ++ [wd B t3]) := by
                              refine ⟨?_, by simp; omega, fun v hv => ?_⟩
                              · rw [hF211 10 _ (by simp), List.length_append]; exact up2_s
                              · by_cases hv2 : v < acc.length
                                · rw [getD_app_lt hv2]
                                  exact (hw11 v hv2).fr hF211 (by simp only [pK]; omega) (fun j hj => by simp only [pK]; omega)
                                · have hv3 : v = acc.length := by simp at hv; omega
                                  subst hv3
                                  rw [getD_app_eq]; exact hSW211
                            refine lv_goto (tgt := 91) hE.1 hE.2.1 dX11_readInput_214 (by decide) ?_
                            exact ih91 (iv211, acc ++ [wd B t3], nx B n t3) _ _ _ (show 8 - (acc ++ [wd B t3]).length < 8 - acc.length by simp; omega) ⟨hM, hV2, hSW, hFr, hrv⟩ (lv_sub hl [1, 2, 3, 4, 5] rfl) hH
                          · omega
                        · rw [oI_m1 (fun k hk => by have := (ixW_lt hk).1; omega), ixW_eq_none, Classical.not_not] at c174
                          rw [if_pos c174] at hcol
                          refine lv_aload_n hE.1 hE.2.1 dX11_readInput_177 rfl (lv_at hl 1 rfl) ?_
                          refine lv_iconst (v := nI 4) hE.1 hE.2.1 dX11_readInput_178 (by decide) ?_
                          refine rg_VV (As := [.int (nI 4)]) (rest := []) hE hml hH mc_X11_168 (c_wrong l z G hG iv119 jv B n 0 t3 hM 4 (by decide)) hG.1.1 hG.1.2 (by decide) rfl ⟨Nat.le_of_ble_eq_true rfl, Nat.le_of_ble_eq_true rfl⟩ rfl hl.1 (by simp [Value.category]) dX11_readInput_179 ⟨Nat.le_of_ble_eq_true rfl, Nat.le_of_ble_eq_true rfl⟩ (fun G179 iv179 jv179 H locs hp179 hH => ?_)
                          obtain ⟨rfl, rfl, hM, hF179⟩ := hp179
                          rw [if_pos rfl] at hM
                          have hFr := hFr.tr (hF179.mono (fun _ _ h => Or.inl h))
                          refine lv_aload_n hE.1 hE.2.1 dX11_readInput_182 rfl (lv_at hl 1 rfl) ?_
                          refine rm_geti hE hH hG fl_X11_131 rfl (v := nI 4) (hM.2.2.2.1) dX11_readInput_183 ?_
                          refine rn_if_eq (tgt := 190) hE dX11_readInput_186 (by decide) (by omega) (fun c186 => ?_) (fun c186 => ?_)
                          · omega
                          · exact rg_vret hE hr hlk hH ⟨rfl, rfl, by rw [hcol]; exact ⟨hM, fun h => absurd h (by simp)⟩, hFr⟩ dX11_readInput_189
                      · refine lv_iload_n hE.1 hE.2.1 dX11_readInput_147 rfl (lv_at hl 4 rfl) ?_
                        refine lv_iload hE.1 hE.2.1 dX11_readInput_148 (lv_at hl 0 rfl) ?_
                        refine lv_iconst (v := nI 1) hE.1 hE.2.1 dX11_readInput_150 (by decide) ?_
                        refine rn_iadd hE dX11_readInput_151 ?_
                        refine rn_imul hE dX11_readInput_152 ?_
                        refine lv_sipush (v := nI 400) hE.1 hE.2.1 dX11_readInput_153 (by decide) ?_
                        refine rn_icmp_le (tgt := 167) hE dX11_readInput_156 (by decide) (by have := Nat.mul_le_mul hah (show acc.length + 1 ≤ 7 by omega); omega) (by have := Nat.mul_le_mul hah (show acc.length + 1 ≤ 7 by omega); omega) (fun c156 => ?_) (fun c156 => ?_)
                        · have h4c : ¬ (acc.length = 6 ∨ 400 < ahead * (acc.length + 1)) := by omega
                          rw [if_neg h4c] at hcol hrv
                          refine lv_aload_n hE.1 hE.2.1 dX11_readInput_167 rfl (lv_at hl 1 rfl) ?_
                          refine lv_iload_n hE.1 hE.2.1 dX11_readInput_168 rfl (lv_at hl 2 rfl) ?_
                          refine lv_iload_n hE.1 hE.2.1 dX11_readInput_169 rfl (lv_at hl 3 rfl) ?_
                          refine rg_VI (As := [.int (nI T), .int (nI i)]) (rest := []) hE hml hH mc_X11_189 (c_valueNow l z G hG iv119 jv B n 0 t3 hM T i hT hi acc hV) hG.1.1 hG.1.2 (by decide) rfl ⟨Nat.le_of_ble_eq_true rfl, Nat.le_of_ble_eq_true rfl⟩ rfl hl.1 (by simp [Value.category]) dX11_readInput_170 ⟨Nat.le_of_ble_eq_true rfl, Nat.le_of_ble_eq_true rfl⟩ (fun r170 G170 iv170 jv170 H locs hp170 hH => ?_)
                          obtain ⟨rfl, rfl, rfl, rfl⟩ := hp170
                          refine lv_iconst (v := -1) hE.1 hE.2.1 dX11_readInput_173 (by decide) ?_
                          refine lv_icmp_eq (tgt := 182) hE.1 hE.2.1 dX11_readInput_174 (by decide) (fun c174 => ?_) (fun c174 => ?_)
                          · rw [oI_m1 (fun k hk => by have := (ixW_lt hk).1; omega), ixW_eq_none] at c174
                            rw [if_neg c174] at hcol hrv
                            refine lv_aload_n hE.1 hE.2.1 dX11_readInput_182 rfl (lv_at hl 1 rfl) ?_
                            refine rm_geti hE hH hG fl_X11_131 rfl (v := nI 0) (hM.2.2.2.1) dX11_readInput_183 ?_
                            refine rn_if_eq (tgt := 190) hE dX11_readInput_186 (by decide) (by omega) (fun c186 => ?_) (fun c186 => ?_)
                            · refine lv_aload_n hE.1 hE.2.1 dX11_readInput_190 rfl (lv_at hl 1 rfl) ?_
                              refine rm_getr hE hH hG fl_X11_26 rfl (by decide) dX11_readInput_191 ?_
                              refine lv_iload hE.1 hE.2.1 dX11_readInput_194 (lv_at hl 5 rfl) ?_
                              refine lv_iload hE.1 hE.2.1 dX11_readInput_196 (lv_at hl 0 rfl) ?_
                              refine lv_iconst (v := nI 1) hE.1 hE.2.1 dX11_readInput_198 (by decide) ?_
                              refine rn_iadd hE dX11_readInput_199 ?_
                              refine rm_iast hE hH hG (k := 10) (by decide) rfl (N := 36) rfl (n := 6 * T + i) (by omega) (v := nI (acc.length + 1)) dX11_readInput_200 (fun H locs hH => ?_)
                              have hM := hM.up 10 (6 * T + i) (nI (acc.length + 1)) (by decide) (by decide)
                              have hFr : Fr iv (up2 iv119 10 (6 * T + i) (nI (acc.length + 1))) (pC T i) := Fr.up hFr (Or.inr (Or.inl ⟨rfl, rfl⟩))
                              have hw11 : ∀ v, v < acc.length → SW (up2 iv119 10 (6 * T + i) (nI (acc.length + 1))) (42 * T + 7 * i + (1 + v)) (acc.getD v []) := fun v hv => (hV.2.2 v hv).fr (P := fun lb _ => lb = 10) (Fr.up Fr.rf rfl) (by simp) (fun _ _ => by simp)
                              have hSW := hSW.fr (P := fun lb _ => lb = 10) (iv' := up2 iv119 10 (6 * T + i) (nI (acc.length + 1))) (Fr.up Fr.rf rfl) (by simp) (fun _ _ => by simp)
                              refine lv_aload_n hE.1 hE.2.1 dX11_readInput_201 rfl (lv_at hl 1 rfl) ?_
                              refine lv_iload_n hE.1 hE.2.1 dX11_readInput_202 rfl (lv_at hl 2 rfl) ?_
                              refine lv_iload_n hE.1 hE.2.1 dX11_readInput_203 rfl (lv_at hl 3 rfl) ?_
                              refine lv_iconst (v := nI 1) hE.1 hE.2.1 dX11_readInput_204 (by decide) ?_
                              refine lv_iload hE.1 hE.2.1 dX11_readInput_205 (lv_at hl 0 rfl) ?_
                              refine rn_iadd hE dX11_readInput_207 ?_
                              refine rg_SI (As := [.int (nI T), .int (nI i), .int (nI (1 + acc.length))]) (rest := [.ref (G.ad 0)]) hE hml hH mc_X11_179 (c_wordAt l z G hG (up2 iv119 10 (6 * T + i) (nI (acc.length + 1))) jv T i (1 + acc.length)) rfl ⟨Nat.le_of_ble_eq_true rfl, Nat.le_of_ble_eq_true rfl⟩ rfl hl.1 (by simp [Value.category]) dX11_readInput_208 ⟨Nat.le_of_ble_eq_true rfl, Nat.le_of_ble_eq_true rfl⟩ (fun r208 G208 iv208 jv208 H locs hp208 hH => ?_)
                              obtain ⟨rfl, rfl, rfl, rfl⟩ := hp208
                              refine rg_VV (As := [.int (nI (42 * T + 7 * i + (1 + acc.length)))]) (rest := []) hE hml hH mc_X11_193 (c_keepWord l z G hG (up2 iv119 10 (6 * T + i) (nI (acc.length + 1))) jv B n t3 hM hf33.2.2 (42 * T + 7 * i + (1 + acc.length)) (by omega)) hG.1.1 hG.1.2 (by decide) rfl ⟨Nat.le_of_ble_eq_true rfl, Nat.le_of_ble_eq_true rfl⟩ rfl hl.1 (by simp [Value.category]) dX11_readInput_211 ⟨Nat.le_of_ble_eq_true rfl, Nat.le_of_ble_eq_true rfl⟩ (fun G211 iv211 jv211 H locs hp211 hH => ?_)
                              obtain ⟨rfl, rfl, hM, hSW211, hF211⟩ := hp211
                              have hFr := hFr.tr (hF211.mono (pK_pC (by omega) (by omega)))
                              have hSW := hSW.fr hF211 (by simp) (fun j hj => by simp only [pK]; omega)
                              have hV2 : VS iv211 T i (acc ++ [wd B t3]) := by
                                refine ⟨?_, by simp; omega, fun v hv => ?_⟩
                                · rw [hF211 10 _ (by simp), List.length_append]; exact up2_s
                                · by_cases hv2 : v < acc.length
                                  · rw [getD_app_lt hv2]
                                    exact (hw11 v hv2).fr hF211 (by simp only [pK]; omega) (fun j hj => by simp only [pK]; omega)
                                  · have hv3 : v = acc.length := by simp at hv; omega
                                    subst hv3
                                    rw [getD_app_eq]; exact hSW211
                              refine lv_goto (tgt := 91) hE.1 hE.2.1 dX11_readInput_214 (by decide) ?_
                              exact ih91 (iv211, acc ++ [wd B t3], nx B n t3) _ _ _ (show 8 - (acc ++ [wd B t3]).length < 8 - acc.length by simp; omega) ⟨hM, hV2, hSW, hFr, hrv⟩ (lv_sub hl [1, 2, 3, 4, 5] rfl) hH
                            · omega
                          · rw [oI_m1 (fun k hk => by have := (ixW_lt hk).1; omega), ixW_eq_none, Classical.not_not] at c174
                            rw [if_pos c174] at hcol
                            refine lv_aload_n hE.1 hE.2.1 dX11_readInput_177 rfl (lv_at hl 1 rfl) ?_
                            refine lv_iconst (v := nI 4) hE.1 hE.2.1 dX11_readInput_178 (by decide) ?_
                            refine rg_VV (As := [.int (nI 4)]) (rest := []) hE hml hH mc_X11_168 (c_wrong l z G hG iv119 jv B n 0 t3 hM 4 (by decide)) hG.1.1 hG.1.2 (by decide) rfl ⟨Nat.le_of_ble_eq_true rfl, Nat.le_of_ble_eq_true rfl⟩ rfl hl.1 (by simp [Value.category]) dX11_readInput_179 ⟨Nat.le_of_ble_eq_true rfl, Nat.le_of_ble_eq_true rfl⟩ (fun G179 iv179 jv179 H locs hp179 hH => ?_)
                            obtain ⟨rfl, rfl, hM, hF179⟩ := hp179
                            rw [if_pos rfl] at hM
                            have hFr := hFr.tr (hF179.mono (fun _ _ h => Or.inl h))
                            refine lv_aload_n hE.1 hE.2.1 dX11_readInput_182 rfl (lv_at hl 1 rfl) ?_
                            refine rm_geti hE hH hG fl_X11_131 rfl (v := nI 4) (hM.2.2.2.1) dX11_readInput_183 ?_
                            refine rn_if_eq (tgt := 190) hE dX11_readInput_186 (by decide) (by omega) (fun c186 => ?_) (fun c186 => ?_)
                            · omega
                            · exact rg_vret hE hr hlk hH ⟨rfl, rfl, by rw [hcol]; exact ⟨hM, fun h => absurd h (by simp)⟩, hFr⟩ dX11_readInput_189
                        · rw [if_pos (Or.inr c156)] at hcol
                          refine lv_aload_n hE.1 hE.2.1 dX11_readInput_159 rfl (lv_at hl 1 rfl) ?_
                          refine lv_iconst (v := nI 2) hE.1 hE.2.1 dX11_readInput_160 (by decide) ?_
                          refine rg_VV (As := [.int (nI 2)]) (rest := []) hE hml hH mc_X11_168 (c_wrong l z G hG iv119 jv B n 0 t3 hM 2 (by decide)) hG.1.1 hG.1.2 (by decide) rfl ⟨Nat.le_of_ble_eq_true rfl, Nat.le_of_ble_eq_true rfl⟩ rfl hl.1 (by simp [Value.category]) dX11_readInput_161 ⟨Nat.le_of_ble_eq_true rfl, Nat.le_of_ble_eq_true rfl⟩ (fun G161 iv161 jv161 H locs hp161 hH => ?_)
                          obtain ⟨rfl, rfl, hM, hF161⟩ := hp161
                          rw [if_pos rfl] at hM
                          have hFr := hFr.tr (hF161.mono (fun _ _ h => Or.inl h))
                          refine lv_goto (tgt := 182) hE.1 hE.2.1 dX11_readInput_164 (by decide) ?_
                          refine lv_aload_n hE.1 hE.2.1 dX11_readInput_182 rfl (lv_at hl 1 rfl) ?_
                          refine rm_geti hE hH hG fl_X11_131 rfl (v := nI 2) (hM.2.2.2.1) dX11_readInput_183 ?_
                          refine rn_if_eq (tgt := 190) hE dX11_readInput_186 (by decide) (by omega) (fun c186 => ?_) (fun c186 => ?_)
                          · omega
                          · exact rg_vret hE hr hlk hH ⟨rfl, rfl, by rw [hcol]; exact ⟨hM, fun h => absurd h (by simp)⟩, hFr⟩ dX11_readInput_189
                  · have hfn3 : frF B t3 ≠ 0 := fun h => (of_decide_eq_false c122) ⟨rfl, h⟩
                    rw [fb, if_pos rfl] at hM
                    rw [if_pos hfn3] at hcol
                    exact rg_vret hE hr hlk hH ⟨rfl, rfl, by rw [hcol]; exact ⟨hM, fun h => absurd h hfn3⟩, hFr⟩ dX11_readInput_125
          · rw [nd, if_neg (by simp), if_neg h58] at hM
            refine lv_aload_n hE.1 hE.2.1 dX11_readInput_91 rfl (lv_at hl 0 rfl) ?_
            refine rm_geti hE hH hG fl_X11_131 rfl (v := nI 1) (hM.2.2.2.1) dX11_readInput_92 ?_
            refine rn_if_ne (tgt := 217) hE dX11_readInput_95 (by decide) (by omega) (fun c95 => ?_) (fun c95 => ?_)
            · refine lv_aload_n hE.1 hE.2.1 dX11_readInput_217 rfl (lv_at hl 0 rfl) ?_
              refine lv_bipush (v := nI 59) hE.1 hE.2.1 dX11_readInput_218 (by decide) ?_
              refine rg_VV (As := [.int (nI 59)]) (rest := []) hE hml hH mc_X11_196 (c_need l z G hG iv88 jv B n 1 (nx B n (nx B n t)) hM 59 (by decide)) hG.1.1 hG.1.2 (by decide) rfl ⟨Nat.le_of_ble_eq_true rfl, Nat.le_of_ble_eq_true rfl⟩ rfl hl.1 (by simp [Value.category]) dX11_readInput_220 ⟨Nat.le_of_ble_eq_true rfl, Nat.le_of_ble_eq_true rfl⟩ (fun G220 iv220 jv220 H locs hp220 hH => ?_)
              obtain ⟨rfl, rfl, hM, hF220⟩ := hp220
              have hFr := hFr.tr (hF220.mono (fun _ _ h => Or.inl h))
              rw [nd, if_pos (by simp)] at hM
              exact rg_vret hE hr hlk hH ⟨rfl, rfl, by rw [rdCol_3 hf0 hin h58]; exact ⟨hM, fun h => absurd h (by simp)⟩, hFr⟩ dX11_readInput_223
            · omega
        · omega
    · refine lv_aload_n hE.1 hE.2.1 dX11_readInput_42 rfl (lv_at hl 0 rfl) ?_
      refine lv_iload_n hE.1 hE.2.1 dX11_readInput_43 rfl (lv_at hl 1 rfl) ?_
      refine lv_iload hE.1 hE.2.1 dX11_readInput_44 (lv_at hl 5 rfl) ?_
      refine lv_iconst (v := nI 0) hE.1 hE.2.1 dX11_readInput_46 (by decide) ?_
      refine rg_SI (As := [.int (nI T), .int (nI o), .int (nI 0)]) (rest := [.ref (G.ad 0)]) hE hml hH mc_X11_179 (c_wordAt l z G hG iv1 jv T o 0) rfl ⟨Nat.le_of_ble_eq_true rfl, Nat.le_of_ble_eq_true rfl⟩ rfl hl.1 (by simp [Value.category]) dX11_readInput_47 ⟨Nat.le_of_ble_eq_true rfl, Nat.le_of_ble_eq_true rfl⟩ (fun r47 G47 iv47 jv47 H locs hp47 hH => ?_)
      obtain ⟨rfl, rfl, rfl, rfl⟩ := hp47
      refine rg_VI (As := [.int (nI (42 * T + 7 * o + 0))]) (rest := []) hE hml hH mc_X11_183 (c_isSame l z G hG iv1 jv B n (bo (wd B (nx B n t)) nms o) (nx B n t) hM (42 * T + 7 * o + 0) (by omega) (nms.getD o []) ((fun o ho => (hN o ho).fr hFr (by simp only [pC]; omega) (fun j hj => by simp only [pC]; omega)) o (by omega))) hG.1.1 hG.1.2 (by decide) rfl ⟨Nat.le_of_ble_eq_true rfl, Nat.le_of_ble_eq_true rfl⟩ rfl hl.1 (by simp [Value.category]) dX11_readInput_50 ⟨Nat.le_of_ble_eq_true rfl, Nat.le_of_ble_eq_true rfl⟩ (fun r50 G50 iv50 jv50 H locs hp50 hH => ?_)
      obtain ⟨rfl, rfl, rfl, rfl⟩ := hp50
      refine rn_ifb_eq (tgt := 61) hE dX11_readInput_53 (by decide) (fun c53 => ?_) (fun c53 => ?_)
      · have hM : MP iv1 B n (bo (wd B (nx B n t)) nms (o + 1)) (nx B n t) := by
          have e : bo (wd B (nx B n t)) nms (o + 1) = bo (wd B (nx B n t)) nms o  := bo_ne c39 (of_decide_eq_false c53)
          rw [e]; exact hM
        refine lv_iinc (v := nI (o + 1)) (lv' := [(5, .int (nI (o + 1))), (0, .ref (G.ad 0)), (1, .int (nI T)), (2, .int (nI i)), (3, .int (nI ahead)), (4, .int (nI (6 * T + i)))]) hE.1 hE.2.1 dX11_readInput_61 hl (k := 5) rfl (nI_1 _) (by decide) rfl (fun ls hl => ?_)
        refine lv_goto (tgt := 31) hE.1 hE.2.1 dX11_readInput_64 (by decide) ?_
        exact ih31 (iv1, o + 1) _ _ _ (show nms.length - (o + 1) < nms.length - o by omega) ⟨by show o + 1 ≤ nms.length; omega, hM, hFr, h10⟩ (lv_sub hl [1, 2, 3, 4, 5, 0] rfl) hH
      · refine lv_aload_n hE.1 hE.2.1 dX11_readInput_56 rfl (lv_at hl 0 rfl) ?_
        refine lv_iconst (v := nI 4) hE.1 hE.2.1 dX11_readInput_57 (by decide) ?_
        refine rg_VV (As := [.int (nI 4)]) (rest := []) hE hml hH mc_X11_168 (c_wrong l z G hG iv1 jv B n (bo (wd B (nx B n t)) nms o) (nx B n t) hM 4 (by decide)) hG.1.1 hG.1.2 (by decide) rfl ⟨Nat.le_of_ble_eq_true rfl, Nat.le_of_ble_eq_true rfl⟩ rfl hl.1 (by simp [Value.category]) dX11_readInput_58 ⟨Nat.le_of_ble_eq_true rfl, Nat.le_of_ble_eq_true rfl⟩ (fun G58 iv58 jv58 H locs hp58 hH => ?_)
        obtain ⟨rfl, rfl, hM, hF58⟩ := hp58
        have hFr := hFr.tr (hF58.mono (fun _ _ h => Or.inl h))
        have hM : MP iv58 B n (bo (wd B (nx B n t)) nms (o + 1)) (nx B n t) := by
          have e : bo (wd B (nx B n t)) nms (o + 1) = 4 := by
            rw [bo, if_pos]; rw [mem_take_s (d := []) c39]; exact Or.inr (of_decide_eq_true c53).symm
          have e2 : (if bo (wd B (nx B n t)) nms o = 0 then 4 else bo (wd B (nx B n t)) nms o) = 4 := by unfold bo; split <;> split <;> simp_all
          rw [e, ← e2]; exact hM
        have h10 : iv58 10 (6 * T + i) = nI 0 := (hF58 10 _ (by simp)).trans h10
        refine lv_iinc (v := nI (o + 1)) (lv' := [(5, .int (nI (o + 1))), (0, .ref (G.ad 0)), (1, .int (nI T)), (2, .int (nI i)), (3, .int (nI ahead)), (4, .int (nI (6 * T + i)))]) hE.1 hE.2.1 dX11_readInput_61 hl (k := 5) rfl (nI_1 _) (by decide) rfl (fun ls hl => ?_)
        refine lv_goto (tgt := 31) hE.1 hE.2.1 dX11_readInput_64 (by decide) ?_
        exact ih31 (iv58, o + 1) _ _ _ (show nms.length - (o + 1) < nms.length - o by omega) ⟨by show o + 1 ≤ nms.length; omega, hM, hFr, h10⟩ (lv_sub hl [1, 2, 3, 4, 5, 0] rfl) hH
  · have hfn : frF B (nx B n t) ≠ 0 := fun h => (of_decide_eq_false c24) ⟨rfl, h⟩
    rw [fb, if_pos rfl] at hM
    exact rg_vret hE hr hlk hH ⟨rfl, rfl, by rw [rdCol_1 hfn]; exact ⟨hM, fun h => absurd h hfn⟩, hFr⟩ dX11_readInput_27
