set_option maxRecDepth 100000 in
set_option maxHeartbeats 4000000 in
theorem c_readCell (l : Launch) (z : ZK) (G : GW) (hG : isM G) (iv : IV) (jv : JV) (B : Nat → Nat) (n bad : Nat) (t : Tok) (hM : MP iv B n bad t) (T i : Nat) (hT : T < 6) (hi : i ≤ 5) (vs : List Wd) (hV : VS iv T i vs) : cI l z yX11_readCell cX11_readCell 6 (some .int) 8 171 0 0 [.ref (G.ad 0), .int (nI T), .int (nI i)] G iv jv (fun r G' iv' jv' => G = G' ∧ jv = jv' ∧ (MP iv' B n (rdCell B n vs bad t).1 (rdCell B n vs bad t).2.2 ∧ ((rdCell B n vs bad t).1 = 0 → r = nI (rdCell B n vs bad t).2.1)) ∧ Fr iv iv' pQ) := by
  intro sz
  refine rg_entry rfl (Nat.le_of_ble_eq_true rfl) ?_
  intro pq eq sq mq bq methq cq ls hE hr hlk hml hnm hl hsz hH
  have hl : lv_has ls 6 [(0, .ref (G.ad 0)), (1, .int (nI T)), (2, .int (nI i))] := hl
  obtain ⟨hbn, hbe, hen, hk3, hs256, hb4⟩ := hM.b
  have h6 := hV.2.1
  have hFr : Fr iv iv pQ := Fr.rf
  refine lv_aload_n hE.1 hE.2.1 dX11_readCell_0 rfl (lv_at hl 0 rfl) ?_
  refine lv_bipush (v := nI 42) hE.1 hE.2.1 dX11_readCell_1 (by decide) ?_
  refine rg_VI (As := [.int (nI 42)]) (rest := []) hE hml hH mc_X11_165 (c_isSign l z G hG iv jv B n bad t hM 42 (by decide)) hG.1.1 hG.1.2 (by decide) rfl ⟨Nat.le_of_ble_eq_true rfl, Nat.le_of_ble_eq_true rfl⟩ rfl hl.1 (by simp [Value.category]) dX11_readCell_3 ⟨Nat.le_of_ble_eq_true rfl, Nat.le_of_ble_eq_true rfl⟩ (fun r3 G3 iv3 jv3 H locs hp3 hH => ?_)
  obtain ⟨rfl, rfl, rfl, rfl⟩ := hp3
  refine rn_ifb_eq (tgt := 20) hE dX11_readCell_6 (by decide) (fun c6 => ?_) (fun c6 => ?_)
  · have hn42 := of_decide_eq_false c6
    refine lv_aload_n hE.1 hE.2.1 dX11_readCell_20 rfl (lv_at hl 0 rfl) ?_
    refine lv_bipush (v := nI 33) hE.1 hE.2.1 dX11_readCell_21 (by decide) ?_
    refine rg_VI (As := [.int (nI 33)]) (rest := []) hE hml hH mc_X11_165 (c_isSign l z G hG iv jv B n bad t hM 33 (by decide)) hG.1.1 hG.1.2 (by decide) rfl ⟨Nat.le_of_ble_eq_true rfl, Nat.le_of_ble_eq_true rfl⟩ rfl hl.1 (by simp [Value.category]) dX11_readCell_23 ⟨Nat.le_of_ble_eq_true rfl, Nat.le_of_ble_eq_true rfl⟩ (fun r23 G23 iv23 jv23 H locs hp23 hH => ?_)
    obtain ⟨rfl, rfl, rfl, rfl⟩ := hp23
    refine rn_ifb_eq (tgt := 64) hE dX11_readCell_26 (by decide) (fun c26 => ?_) (fun c26 => ?_)
    · have hn33 := of_decide_eq_false c26
      refine lv_iconst (v := nI 0) hE.1 hE.2.1 dX11_readCell_64 (by decide) ?_
      refine lv_istore_n (lv' := [(3, .int (nI 0)), (0, .ref (G.ad 0)), (1, .int (nI T)), (2, .int (nI i))]) hE.1 hE.2.1 dX11_readCell_65 rfl hl (by decide) rfl (fun ls hl => ?_)
      refine lv_iconst (v := nI 1) hE.1 hE.2.1 dX11_readCell_66 (by decide) ?_
      refine lv_istore (lv' := [(4, .int (nI 1)), (3, .int (nI 0)), (0, .ref (G.ad 0)), (1, .int (nI T)), (2, .int (nI i))]) hE.1 hE.2.1 dX11_readCell_67 hl (by decide) rfl (fun ls hl => ?_)
      by_cases hb0 : bad = 0
      · subst hb0
        have hcell : rdCell B n vs 0 t = rdBits B n vs 64 0 t := by rw [rdCell, if_neg (by simp), if_neg (fun h => hn42 ⟨rfl, h⟩), if_neg (fun h => hn33 ⟨rfl, h⟩)]
        refine rg_loop (σ := IV × Nat × Bool × Tok) (nL := 6) (fun (u : IV × Nat × Bool × Tok) => match u with | (iv1, b, more, t3) => 2 * (64 - b) + (if more then 1 else 0)) (fun (u : IV × Nat × Bool × Tok) => match u with | (iv1, b, more, t3) => [(0, .ref (G.ad 0)), (1, .int (nI T)), (2, .int (nI i)), (3, .int (nI b)), (4, .int (bI more))]) (fun (u : IV × Nat × Bool × Tok) => match u with | (iv1, b, more, t3) => G) (fun (u : IV × Nat × Bool × Tok) => match u with | (iv1, b, more, t3) => iv1) (fun (u : IV × Nat × Bool × Tok) => match u with | (iv1, b, more, t3) => jv) (fun (u : IV × Nat × Bool × Tok) => match u with | (iv1, b, more, t3) => MP iv1 B n 0 t3 ∧ Fr iv iv1 pQ ∧ b < 64 ∧ (more = true → ∃ f, 64 - b ≤ f ∧ rdBits B n vs f b t3 = rdBits B n vs 64 0 t) ∧ (more = false → rdBits B n vs 64 0 t = (0, b, t3))) ?_ ((iv, 0, true, t)) ⟨hM, hFr, by decide, fun _ => ⟨64, Nat.le_refl _, rfl⟩, fun h => by cases h⟩ (lv_sub hl [2, 3, 4, 1, 0] rfl) hH
        rintro ⟨iv1, b, more, t3⟩ H locs ls ⟨hM, hFr, hb64, hmt, hmf⟩ hl hH ih69
        try dsimp only at hl hH ih69
        try dsimp only at hM hFr hb64 hmt hmf
        have hV := VS.fr ‹VS iv T i vs› hFr (by simp) (fun _ _ => by simp) (fun _ _ _ _ => by simp)
        refine lv_aload_n hE.1 hE.2.1 dX11_readCell_69 rfl (lv_at hl 0 rfl) ?_
        refine rm_geti hE hH hG fl_X11_131 rfl (v := nI 0) (hM.2.2.2.1) dX11_readCell_70 ?_
        refine rn_if_ne (tgt := 167) hE dX11_readCell_73 (by decide) (by omega) (fun c73 => ?_) (fun c73 => ?_)
        · omega
        · refine lv_iload hE.1 hE.2.1 dX11_readCell_76 (lv_at hl 4 rfl) ?_
          refine rn_ifb_eq (tgt := 167) hE dX11_readCell_78 (by decide) (fun c78 => ?_) (fun c78 => ?_)
          · refine lv_iload_n hE.1 hE.2.1 dX11_readCell_167 rfl (lv_at hl 3 rfl) ?_
            exact rg_iret hE hr rfl hlk hH ⟨rfl, rfl, by rw [hcell, hmf c78]; exact ⟨hM, fun _ => rfl⟩, hFr⟩ dX11_readCell_168
          · obtain ⟨f0, hf64, hf⟩ := hmt c78
            have hmt0 := c78
            obtain ⟨f, rfl⟩ : ∃ f, f0 = f + 1 := ⟨f0 - 1, by omega⟩
            rw [rdBits] at hf
            refine lv_aload_n hE.1 hE.2.1 dX11_readCell_81 rfl (lv_at hl 0 rfl) ?_
            refine rg_VI (As := []) (rest := []) hE hml hH mc_X11_186 (c_free l z G hG iv1 jv B n 0 t3 hM) hG.1.1 hG.1.2 (by decide) rfl ⟨Nat.le_of_ble_eq_true rfl, Nat.le_of_ble_eq_true rfl⟩ rfl hl.1 (by simp [Value.category]) dX11_readCell_82 ⟨Nat.le_of_ble_eq_true rfl, Nat.le_of_ble_eq_true rfl⟩ (fun r82 G82 iv82 jv82 H locs hp82 hH => ?_)
            obtain ⟨rfl, rfl, rfl, hM, hF82⟩ := hp82
            have hFr := hFr.tr (hF82.mono (fun _ _ h => h))
            refine rn_ifb_ne (tgt := 90) hE dX11_readCell_85 (by decide) (fun c85 => ?_) (fun c85 => ?_)
            · obtain ⟨-, hf0⟩ := of_decide_eq_true c85
              rw [fb, if_pos rfl, hf0] at hM
              rw [if_neg (by simp [hf0])] at hf
              have hV := hV.fr hF82 (by simp) (fun _ _ => by simp) (fun _ _ _ _ => by simp)
              refine lv_aload_n hE.1 hE.2.1 dX11_readCell_90 rfl (lv_at hl 0 rfl) ?_
              refine lv_iload_n hE.1 hE.2.1 dX11_readCell_91 rfl (lv_at hl 1 rfl) ?_
              refine lv_iload_n hE.1 hE.2.1 dX11_readCell_92 rfl (lv_at hl 2 rfl) ?_
              refine rg_VI (As := [.int (nI T), .int (nI i)]) (rest := []) hE hml hH mc_X11_189 (c_valueNow l z G hG iv82 jv B n 0 t3 hM T i hT hi vs hV) hG.1.1 hG.1.2 (by decide) rfl ⟨Nat.le_of_ble_eq_true rfl, Nat.le_of_ble_eq_true rfl⟩ rfl hl.1 (by simp [Value.category]) dX11_readCell_93 ⟨Nat.le_of_ble_eq_true rfl, Nat.le_of_ble_eq_true rfl⟩ (fun r93 G93 iv93 jv93 H locs hp93 hH => ?_)
              obtain ⟨rfl, rfl, rfl, rfl⟩ := hp93
              refine lv_istore (lv' := [(5, .int (oI (ixW vs (wd B t3)))), (0, .ref (G.ad 0)), (1, .int (nI T)), (2, .int (nI i)), (3, .int (nI b)), (4, .int (bI more))]) hE.1 hE.2.1 dX11_readCell_96 hl (by decide) rfl (fun ls hl => ?_)
              refine lv_iload hE.1 hE.2.1 dX11_readCell_98 (lv_at hl 0 rfl) ?_
              refine lv_iconst (v := -1) hE.1 hE.2.1 dX11_readCell_100 (by decide) ?_
              refine lv_icmp_ne (tgt := 112) hE.1 hE.2.1 dX11_readCell_101 (by decide) (fun c101 => ?_) (fun c101 => ?_)
              · obtain ⟨v, hv⟩ : ∃ v, ixW vs (wd B t3) = some v := by
                  cases h : ixW vs (wd B t3) with
                  | none => rw [h] at c101; exact absurd rfl c101
                  | some v => exact ⟨v, rfl⟩
                have hvl := (ixW_lt hv).1
                rw [hv] at hf hl
                have hbo := bit_or b hb64 v (by omega)
                have hl : lv_has ls 6 [(5, .int (nI v)), (0, .ref (G.ad 0)), (1, .int (nI T)), (2, .int (nI i)), (3, .int (nI b)), (4, .int (bI more))] := hl
                refine lv_iload_n hE.1 hE.2.1 dX11_readCell_112 rfl (lv_at hl 4 rfl) ?_
                refine lv_iload hE.1 hE.2.1 dX11_readCell_113 (lv_at hl 0 rfl) ?_
                refine lv_ishr hE.1 hE.2.1 dX11_readCell_115 ?_
                refine lv_iconst (v := nI 1) hE.1 hE.2.1 dX11_readCell_116 (by decide) ?_
                refine lv_iand hE.1 hE.2.1 dX11_readCell_117 ?_
                refine lv_iconst (v := nI 1) hE.1 hE.2.1 dX11_readCell_118 (by decide) ?_
                refine lv_icmp_ne (tgt := 127) hE.1 hE.2.1 dX11_readCell_119 (by decide) (fun c119 => ?_) (fun c119 => ?_)
                · rw [bit_t b hb64 v (by omega), Bool.not_eq_true] at c119
                  have hst := hf
                  simp only [c119, Bool.false_eq_true, if_false] at hf hst
                  refine lv_aload_n hE.1 hE.2.1 dX11_readCell_127 rfl (lv_at hl 1 rfl) ?_
                  refine rm_geti hE hH hG fl_X11_131 rfl (v := nI 0) (hM.2.2.2.1) dX11_readCell_128 ?_
                  refine rn_if_eq (tgt := 136) hE dX11_readCell_131 (by decide) (by omega) (fun c131 => ?_) (fun c131 => ?_)
                  · refine lv_iload_n hE.1 hE.2.1 dX11_readCell_136 rfl (lv_at hl 4 rfl) ?_
                    refine lv_iconst (v := nI 1) hE.1 hE.2.1 dX11_readCell_137 (by decide) ?_
                    refine lv_iload hE.1 hE.2.1 dX11_readCell_138 (lv_at hl 0 rfl) ?_
                    refine lv_ishl hE.1 hE.2.1 dX11_readCell_140 ?_
                    refine lv_ior hE.1 hE.2.1 dX11_readCell_141 ?_
                    refine rn_as (v' := nI (b ||| 2 ^ v)) (hbo.1) ?_
                    refine lv_istore_n (lv' := [(3, .int (nI (b ||| 2 ^ v))), (5, .int (nI v)), (0, .ref (G.ad 0)), (1, .int (nI T)), (2, .int (nI i)), (4, .int (bI more))]) hE.1 hE.2.1 dX11_readCell_142 rfl hl (by decide) rfl (fun ls hl => ?_)
                    refine lv_aload_n hE.1 hE.2.1 dX11_readCell_143 rfl (lv_at hl 2 rfl) ?_
                    refine rg_VV (As := []) (rest := []) hE hml hH mc_X11_172 (c_step l z G hG iv82 jv B n (te t3) hM.1 (TV_b hM.2.2.1).2.1 hM.2.1.1) hG.1.1 hG.1.2 (by decide) rfl ⟨Nat.le_of_ble_eq_true rfl, Nat.le_of_ble_eq_true rfl⟩ rfl hl.1 (by simp [Value.category]) dX11_readCell_144 ⟨Nat.le_of_ble_eq_true rfl, Nat.le_of_ble_eq_true rfl⟩ (fun G144 iv144 jv144 H locs hp144 hH => ?_)
                    obtain ⟨rfl, rfl, hTR144, hF144⟩ := hp144
                    have hM := MP.step hM hTR144 hF144
                    have hFr := hFr.tr ((pS_pQ hF144).mono (fun _ _ h => h))
                    refine lv_aload_n hE.1 hE.2.1 dX11_readCell_147 rfl (lv_at hl 2 rfl) ?_
                    refine lv_bipush (v := nI 47) hE.1 hE.2.1 dX11_readCell_148 (by decide) ?_
                    refine rg_VI (As := [.int (nI 47)]) (rest := []) hE hml hH mc_X11_165 (c_isSign l z G hG iv144 jv B n 0 (nx B n t3) hM 47 (by decide)) hG.1.1 hG.1.2 (by decide) rfl ⟨Nat.le_of_ble_eq_true rfl, Nat.le_of_ble_eq_true rfl⟩ rfl hl.1 (by simp [Value.category]) dX11_readCell_150 ⟨Nat.le_of_ble_eq_true rfl, Nat.le_of_ble_eq_true rfl⟩ (fun r150 G150 iv150 jv150 H locs hp150 hH => ?_)
                    obtain ⟨rfl, rfl, rfl, rfl⟩ := hp150
                    refine lv_istore (lv' := [(4, .int (bI (sg 0 (nx B n t3) 47))), (3, .int (nI (b ||| 2 ^ v))), (5, .int (nI v)), (0, .ref (G.ad 0)), (1, .int (nI T)), (2, .int (nI i))]) hE.1 hE.2.1 dX11_readCell_153 hl (by decide) rfl (fun ls hl => ?_)
                    refine lv_iload hE.1 hE.2.1 dX11_readCell_155 (lv_at hl 0 rfl) ?_
                    refine rn_ifb_eq (tgt := 164) hE dX11_readCell_157 (by decide) (fun c157 => ?_) (fun c157 => ?_)
                    · have hn47 := of_decide_eq_false c157
                      have hst : _ = rdBits B n vs 64 0 t := hf
                      rw [if_neg (fun h => hn47 ⟨rfl, h⟩)] at hst
                      have hf := rfl (a := rdBits B n vs 64 0 t)
                      have hst : rdBits B n vs 64 0 t = (0, b ||| 2 ^ v, nx B n t3) := hst.symm
                      rw [c157] at hl
                      refine lv_goto (tgt := 69) hE.1 hE.2.1 dX11_readCell_164 (by decide) ?_
                      exact ih69 (iv144, b ||| 2 ^ v, false, nx B n t3) _ _ _ (show 2 * (64 - (b ||| 2 ^ v)) + _ < 2 * (64 - b) + _ by have := hbo.2.2 c119; simp only [hmt0]; (try simp only [if_true]); (try simp only [Bool.false_eq_true, if_false]); omega) ⟨hM, hFr, hbo.2.1, (fun h => by cases h), fun _ => by rw [← hf]; exact hst⟩ (lv_sub hl [3, 4, 5, 1, 0] rfl) hH
                    · have h47 := (of_decide_eq_true c157).2
                      have hst : _ = rdBits B n vs 64 0 t := hf
                      rw [if_pos h47] at hst
                      have hf := rfl (a := rdBits B n vs 64 0 t)
                      have hst : rdBits B n vs 64 0 t = rdBits B n vs f (b ||| 2 ^ v) (nx B n (nx B n t3)) := hst.symm
                      rw [c157] at hl
                      have hl : lv_has ls 6 [(4, .int (bI true)), (3, .int (nI (b ||| 2 ^ v))), (5, .int (nI v)), (0, .ref (G.ad 0)), (1, .int (nI T)), (2, .int (nI i))] := hl
                      refine lv_aload_n hE.1 hE.2.1 dX11_readCell_160 rfl (lv_at hl 3 rfl) ?_
                      refine rg_VV (As := []) (rest := []) hE hml hH mc_X11_172 (c_step l z G hG iv144 jv B n (te (nx B n t3)) hM.1 (TV_b hM.2.2.1).2.1 hM.2.1.1) hG.1.1 hG.1.2 (by decide) rfl ⟨Nat.le_of_ble_eq_true rfl, Nat.le_of_ble_eq_true rfl⟩ rfl hl.1 (by simp [Value.category]) dX11_readCell_161 ⟨Nat.le_of_ble_eq_true rfl, Nat.le_of_ble_eq_true rfl⟩ (fun G161 iv161 jv161 H locs hp161 hH => ?_)
                      obtain ⟨rfl, rfl, hTR161, hF161⟩ := hp161
                      have hM := MP.step hM hTR161 hF161
                      have hFr := hFr.tr ((pS_pQ hF161).mono (fun _ _ h => h))
                      refine lv_goto (tgt := 69) hE.1 hE.2.1 dX11_readCell_164 (by decide) ?_
                      exact ih69 (iv161, b ||| 2 ^ v, true, nx B n (nx B n t3)) _ _ _ (show 2 * (64 - (b ||| 2 ^ v)) + _ < 2 * (64 - b) + _ by have := hbo.2.2 c119; simp only [hmt0]; (try simp only [if_true]); (try simp only [Bool.false_eq_true, if_false]); omega) ⟨hM, hFr, hbo.2.1, fun _ => ⟨f, by have := hbo.2.2 c119; dsimp only; omega, by rw [← hf]; exact hst.symm⟩, fun h => by cases h⟩ (lv_sub hl [3, 4, 5, 1, 0] rfl) hH
                  · omega
                · rw [bit_t b hb64 v (by omega)] at c119
                  simp only [c119, if_true] at hf
                  refine lv_aload_n hE.1 hE.2.1 dX11_readCell_122 rfl (lv_at hl 1 rfl) ?_
                  refine lv_iconst (v := nI 4) hE.1 hE.2.1 dX11_readCell_123 (by decide) ?_
                  refine rg_VV (As := [.int (nI 4)]) (rest := []) hE hml hH mc_X11_168 (c_wrong l z G hG iv82 jv B n 0 t3 hM 4 (by decide)) hG.1.1 hG.1.2 (by decide) rfl ⟨Nat.le_of_ble_eq_true rfl, Nat.le_of_ble_eq_true rfl⟩ rfl hl.1 (by simp [Value.category]) dX11_readCell_124 ⟨Nat.le_of_ble_eq_true rfl, Nat.le_of_ble_eq_true rfl⟩ (fun G124 iv124 jv124 H locs hp124 hH => ?_)
                  obtain ⟨rfl, rfl, hM, hF124⟩ := hp124
                  rw [if_pos rfl] at hM
                  have hFr := hFr.tr (hF124.mono (fun _ _ h => h))
                  refine lv_aload_n hE.1 hE.2.1 dX11_readCell_127 rfl (lv_at hl 1 rfl) ?_
                  refine rm_geti hE hH hG fl_X11_131 rfl (v := nI 4) (hM.2.2.2.1) dX11_readCell_128 ?_
                  refine rn_if_eq (tgt := 136) hE dX11_readCell_131 (by decide) (by omega) (fun c131 => ?_) (fun c131 => ?_)
                  · omega
                  · refine lv_iconst (v := nI 0) hE.1 hE.2.1 dX11_readCell_134 (by decide) ?_
                    exact rg_iret hE hr rfl hlk hH ⟨rfl, rfl, by rw [hcell, ← hf]; exact ⟨hM, fun h => absurd h (by simp)⟩, hFr⟩ dX11_readCell_135
              · rw [oI_m1 (fun k hk => by have := (ixW_lt hk).1; omega)] at c101
                rw [c101] at hf
                refine lv_aload_n hE.1 hE.2.1 dX11_readCell_104 rfl (lv_at hl 1 rfl) ?_
                refine lv_iconst (v := nI 3) hE.1 hE.2.1 dX11_readCell_105 (by decide) ?_
                refine rg_VV (As := [.int (nI 3)]) (rest := []) hE hml hH mc_X11_168 (c_wrong l z G hG iv82 jv B n 0 t3 hM 3 (by decide)) hG.1.1 hG.1.2 (by decide) rfl ⟨Nat.le_of_ble_eq_true rfl, Nat.le_of_ble_eq_true rfl⟩ rfl hl.1 (by simp [Value.category]) dX11_readCell_106 ⟨Nat.le_of_ble_eq_true rfl, Nat.le_of_ble_eq_true rfl⟩ (fun G106 iv106 jv106 H locs hp106 hH => ?_)
                obtain ⟨rfl, rfl, hM, hF106⟩ := hp106
                rw [if_pos rfl] at hM
                have hFr := hFr.tr (hF106.mono (fun _ _ h => h))
                refine lv_goto (tgt := 127) hE.1 hE.2.1 dX11_readCell_109 (by decide) ?_
                refine lv_aload_n hE.1 hE.2.1 dX11_readCell_127 rfl (lv_at hl 1 rfl) ?_
                refine rm_geti hE hH hG fl_X11_131 rfl (v := nI 3) (hM.2.2.2.1) dX11_readCell_128 ?_
                refine rn_if_eq (tgt := 136) hE dX11_readCell_131 (by decide) (by omega) (fun c131 => ?_) (fun c131 => ?_)
                · omega
                · refine lv_iconst (v := nI 0) hE.1 hE.2.1 dX11_readCell_134 (by decide) ?_
                  exact rg_iret hE hr rfl hlk hH ⟨rfl, rfl, by rw [hcell, ← hf]; exact ⟨hM, fun h => absurd h (by simp)⟩, hFr⟩ dX11_readCell_135
            · have hfn : frF B t3 ≠ 0 := fun h => (of_decide_eq_false c85) ⟨rfl, h⟩
              rw [fb, if_pos rfl] at hM
              rw [if_pos hfn] at hf
              refine lv_iconst (v := nI 0) hE.1 hE.2.1 dX11_readCell_88 (by decide) ?_
              exact rg_iret hE hr rfl hlk hH ⟨rfl, rfl, by rw [hcell, ← hf]; exact ⟨hM, fun h => absurd h hfn⟩, hFr⟩ dX11_readCell_89
      · have hcell : rdCell B n vs bad t = (bad, 0, t) := by rw [rdCell, if_pos hb0]
        refine lv_aload_n hE.1 hE.2.1 dX11_readCell_69 rfl (lv_at hl 2 rfl) ?_
        refine rm_geti hE hH hG fl_X11_131 rfl (v := nI bad) (hM.2.2.2.1) dX11_readCell_70 ?_
        refine rn_if_ne (tgt := 167) hE dX11_readCell_73 (by decide) (by omega) (fun c73 => ?_) (fun c73 => ?_)
        · refine lv_iload_n hE.1 hE.2.1 dX11_readCell_167 rfl (lv_at hl 1 rfl) ?_
          exact rg_iret hE hr rfl hlk hH ⟨rfl, rfl, by rw [hcell]; exact ⟨hM, fun h => absurd h hb0⟩, hFr⟩ dX11_readCell_168
        · exact absurd c73 hb0
    · obtain ⟨hb0, hs33⟩ := of_decide_eq_true c26
      subst hb0
      have hcell : rdCell B n vs 0 t = (if (rdV B n vs 0 (nx B n t)).1 ≠ 0 then ((rdV B n vs 0 (nx B n t)).1, 0, (rdV B n vs 0 (nx B n t)).2.2) else (0, 2 ^ vs.length - 1 - 2 ^ (rdV B n vs 0 (nx B n t)).2.1, (rdV B n vs 0 (nx B n t)).2.2)) := by
        rw [rdCell, if_neg (by simp), if_neg (fun h => hn42 ⟨rfl, h⟩), if_pos hs33]
      refine lv_aload_n hE.1 hE.2.1 dX11_readCell_29 rfl (lv_at hl 0 rfl) ?_
      refine rg_VV (As := []) (rest := []) hE hml hH mc_X11_172 (c_step l z G hG iv jv B n (te t) hM.1 (TV_b hM.2.2.1).2.1 hM.2.1.1) hG.1.1 hG.1.2 (by decide) rfl ⟨Nat.le_of_ble_eq_true rfl, Nat.le_of_ble_eq_true rfl⟩ rfl hl.1 (by simp [Value.category]) dX11_readCell_30 ⟨Nat.le_of_ble_eq_true rfl, Nat.le_of_ble_eq_true rfl⟩ (fun G30 iv30 jv30 H locs hp30 hH => ?_)
      obtain ⟨rfl, rfl, hTR30, hF30⟩ := hp30
      have hM := MP.step hM hTR30 hF30
      have hFr := hFr.tr ((pS_pQ hF30).mono (fun _ _ h => h))
      have hV := hV.fr hF30 (by simp) (fun _ _ => by simp) (fun _ _ _ _ => by simp)
      refine lv_aload_n hE.1 hE.2.1 dX11_readCell_33 rfl (lv_at hl 0 rfl) ?_
      refine lv_iload_n hE.1 hE.2.1 dX11_readCell_34 rfl (lv_at hl 1 rfl) ?_
      refine lv_iload_n hE.1 hE.2.1 dX11_readCell_35 rfl (lv_at hl 2 rfl) ?_
      refine rg_VI (As := [.int (nI T), .int (nI i)]) (rest := []) hE hml hH mc_X11_202 (c_readValue l z G hG iv30 jv B n 0 (nx B n t) hM T i hT hi vs hV) hG.1.1 hG.1.2 (by decide) rfl ⟨Nat.le_of_ble_eq_true rfl, Nat.le_of_ble_eq_true rfl⟩ rfl hl.1 (by simp [Value.category]) dX11_readCell_36 ⟨Nat.le_of_ble_eq_true rfl, Nat.le_of_ble_eq_true rfl⟩ (fun r36 G36 iv36 jv36 H locs hp36 hH => ?_)
      obtain ⟨rfl, rfl, ⟨hM, hrv36⟩, hF36⟩ := hp36
      have hFr := hFr.tr (hF36.mono (fun _ _ h => h))
      have hV := hV.fr hF36 (by simp) (fun _ _ => by simp) (fun _ _ _ _ => by simp)
      obtain ⟨hbn2, -, -, -, -, hb42⟩ := hM.b
      refine lv_istore_n (lv' := [(3, .int (r36)), (0, .ref (G.ad 0)), (1, .int (nI T)), (2, .int (nI i))]) hE.1 hE.2.1 dX11_readCell_39 rfl hl (by decide) rfl (fun ls hl => ?_)
      refine lv_aload_n hE.1 hE.2.1 dX11_readCell_40 rfl (lv_at hl 1 rfl) ?_
      refine rm_geti hE hH hG fl_X11_131 rfl (v := nI ((rdV B n vs 0 (nx B n t)).1)) (hM.2.2.2.1) dX11_readCell_41 ?_
      refine rn_if_ne (tgt := 62) hE dX11_readCell_44 (by decide) (by omega) (fun c44 => ?_) (fun c44 => ?_)
      · rw [if_pos c44] at hcell
        refine lv_iconst (v := nI 0) hE.1 hE.2.1 dX11_readCell_62 (by decide) ?_
        exact rg_iret hE hr rfl hlk hH ⟨rfl, rfl, by rw [hcell]; exact ⟨hM, fun h => absurd h c44⟩, hFr⟩ dX11_readCell_63
      · rw [if_neg (by simp [c44])] at hcell
        have hvl := rdV_lt c44
        have hr36 := hrv36 c44
        subst hr36
        have hl : lv_has ls 6 [(3, .int (nI ((rdV B n vs 0 (nx B n t)).2.1))), (0, .ref (G.ad 0)), (1, .int (nI T)), (2, .int (nI i))] := hl
        refine lv_aload_n hE.1 hE.2.1 dX11_readCell_47 rfl (lv_at hl 1 rfl) ?_
        refine lv_iload_n hE.1 hE.2.1 dX11_readCell_48 rfl (lv_at hl 2 rfl) ?_
        refine lv_iload_n hE.1 hE.2.1 dX11_readCell_49 rfl (lv_at hl 3 rfl) ?_
        refine rg_VI (As := [.int (nI T), .int (nI i)]) (rest := []) hE hml hH mc_X11_199 (c_all l z G hG iv36 jv T i hT hi vs.length (by omega) hV.1) hG.1.1 hG.1.2 (by decide) rfl ⟨Nat.le_of_ble_eq_true rfl, Nat.le_of_ble_eq_true rfl⟩ rfl hl.1 (by simp [Value.category]) dX11_readCell_50 ⟨Nat.le_of_ble_eq_true rfl, Nat.le_of_ble_eq_true rfl⟩ (fun r50 G50 iv50 jv50 H locs hp50 hH => ?_)
        obtain ⟨rfl, rfl, rfl, rfl⟩ := hp50
        refine lv_iconst (v := nI 1) hE.1 hE.2.1 dX11_readCell_53 (by decide) ?_
        refine lv_iload_n hE.1 hE.2.1 dX11_readCell_54 rfl (lv_at hl 0 rfl) ?_
        refine lv_ishl hE.1 hE.2.1 dX11_readCell_55 ?_
        refine lv_iconst (v := -1) hE.1 hE.2.1 dX11_readCell_56 (by decide) ?_
        refine lv_ixor hE.1 hE.2.1 dX11_readCell_57 ?_
        refine lv_iand hE.1 hE.2.1 dX11_readCell_58 ?_
        refine lv_goto (tgt := 63) hE.1 hE.2.1 dX11_readCell_59 (by decide) ?_
        exact rg_iret hE hr rfl hlk hH ⟨rfl, rfl, by rw [hcell]; exact ⟨by rw [c44] at hM; exact hM, fun _ => bit_no _ h6 _ hvl⟩, hFr⟩ dX11_readCell_63
  · obtain ⟨hb0, hs42⟩ := of_decide_eq_true c6
    subst hb0
    refine lv_aload_n hE.1 hE.2.1 dX11_readCell_9 rfl (lv_at hl 0 rfl) ?_
    refine rg_VV (As := []) (rest := []) hE hml hH mc_X11_172 (c_step l z G hG iv jv B n (te t) hM.1 (TV_b hM.2.2.1).2.1 hM.2.1.1) hG.1.1 hG.1.2 (by decide) rfl ⟨Nat.le_of_ble_eq_true rfl, Nat.le_of_ble_eq_true rfl⟩ rfl hl.1 (by simp [Value.category]) dX11_readCell_10 ⟨Nat.le_of_ble_eq_true rfl, Nat.le_of_ble_eq_true rfl⟩ (fun G10 iv10 jv10 H locs hp10 hH => ?_)
    obtain ⟨rfl, rfl, hTR10, hF10⟩ := hp10
    have hM := MP.step hM hTR10 hF10
    have hFr := hFr.tr ((pS_pQ hF10).mono (fun _ _ h => h))
    have hV := hV.fr hF10 (by simp) (fun _ _ => by simp) (fun _ _ _ _ => by simp)
    refine lv_aload_n hE.1 hE.2.1 dX11_readCell_13 rfl (lv_at hl 0 rfl) ?_
    refine lv_iload_n hE.1 hE.2.1 dX11_readCell_14 rfl (lv_at hl 1 rfl) ?_
    refine lv_iload_n hE.1 hE.2.1 dX11_readCell_15 rfl (lv_at hl 2 rfl) ?_
    refine rg_VI (As := [.int (nI T), .int (nI i)]) (rest := []) hE hml hH mc_X11_199 (c_all l z G hG iv10 jv T i hT hi vs.length (by omega) hV.1) hG.1.1 hG.1.2 (by decide) rfl ⟨Nat.le_of_ble_eq_true rfl, Nat.le_of_ble_eq_true rfl⟩ rfl hl.1 (by simp [Value.category]) dX11_readCell_16 ⟨Nat.le_of_ble_eq_true rfl, Nat.le_of_ble_eq_true rfl⟩ (fun r16 G16 iv16 jv16 H locs hp16 hH => ?_)
    obtain ⟨rfl, rfl, rfl, rfl⟩ := hp16
    exact rg_iret hE hr rfl hlk hH ⟨rfl, rfl, by rw [rdCell, if_neg (by simp), if_pos hs42]; exact ⟨hM, fun _ => rfl⟩, hFr⟩ dX11_readCell_19
