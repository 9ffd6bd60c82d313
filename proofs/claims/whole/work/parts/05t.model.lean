set_option maxRecDepth 100000 in
set_option maxHeartbeats 4000000 in
theorem c_Pa_when (l : Launch) (z : ZK) (G : GW) (hX : isPx G) (iv : IV) (jv : JV) (B : Nat → Nat) (n : Nat) (t : Tok) (htv : TV B n t) (hR : LR iv jv B n (nx B n t)) (b : Nat) (hL : isLa G b) (hb : 1000 ≤ b) (ins : List Col) (hI : LI iv jv b ins) (hok : insOK ins) (outs : List Wd) (hV : CV iv jv (b + 20) outs) (r : Nat) (hRo : isRo G r) (hr1 : 1000 ≤ r) (k : Nat) (hk : k < 40) (h0 : iv r 0 = nI k) (hdis : r + 3 ≤ b ∨ b + 40 ≤ r) (fs : List (Nat × Nat)) (h6 : 6 * fs.length ≤ te t) : cI l z yX4_readWhen cX4_readWhen 5 (some .boolean) 4 93 0 0 [.ref (G.ad 102), .ref (G.ad b), .ref (G.ad r)] G iv jv (fun r' G' iv' jv' => G = G' ∧ r' = bI (decide ((rdWhen B n ins outs fs t).1 = 0)) ∧ LR iv' jv' B n (rdWhen B n ins outs fs t).2.2 ∧ ((rdWhen B n ins outs fs t).1 ≠ 0 → iv' 102 1 = nI (rdWhen B n ins outs fs t).1) ∧ ((rdWhen B n ins outs fs t).1 = 0 → iv' r 0 = nI (k + 1) ∧ (∀ i, i < 5 → wcE iv' r k i (colsOf ins i).length (rdWhen B n ins outs fs t).2.1.1 fs.length ((rdWhen B n ins outs fs t).2.1.1.length - fs.length)) ∧ iv' (r + 2) k = nI (rdWhen B n ins outs fs t).2.1.2) ∧ Fr iv iv' (pRw r k) ∧ FrJ jv jv' qZ) := by
  intro sz
  refine rg_entry rfl (Nat.le_of_ble_eq_true rfl) ?_
  intro pq eq sq mq bq methq cq ls hE hr hlk hml hnm hl hsz hH
  have hl : lv_has ls 5 [(0, .ref (G.ad 102)), (1, .ref (G.ad b)), (2, .ref (G.ad r))] := hl
  have hFj : FrJ jv jv qZ := FrJ.rf
  have hl1 : G.ln (b + 1) = 5 := hL.2.1.2.2
  refine lv_aload_n hE.1 hE.2.1 dX4_readWhen_0 rfl (lv_at hl 2 rfl) ?_
  refine rg_VV (As := []) (rest := []) hE hml hH mc_X4_125 (c_Ro_open l z G iv jv r hRo k hk h0) (hRo.1.1) (hRo.1.2) (by decide) rfl ⟨Nat.le_of_ble_eq_true rfl, Nat.le_of_ble_eq_true rfl⟩ rfl hl.1 (by simp [Value.category]) dX4_readWhen_1 ⟨Nat.le_of_ble_eq_true rfl, Nat.le_of_ble_eq_true rfl⟩ (fun G1 iv1 jv1 H locs hp1 hH => ?_)
  obtain ⟨rfl, rfl, h63, hF1⟩ := hp1
  have hR := hR.fr (Q := fun _ _ => False) hF1 FrJ.rf (fun j => by omega) (fun j => by omega) (fun j => by omega) (fun j h => h) (fun h => h)
  have hFr : Fr iv iv1 (pRw r k) := hF1.mono (fun lb j h => Or.inr (Or.inr (Or.inl h)))
  have h0 : iv1 r 0 = nI k := (hF1 _ _ (by omega)).trans h0
  have hI := hI.frQ hb hdis hFr hFj
  have hV := hV.frQ hb hdis hFr hFj
  have h5 := hI.2.2.1
  have hn1 := hR.2.1
  refine lv_iconst (v := nI 0) hE.1 hE.2.1 dX4_readWhen_4 (by decide) ?_
  refine rn_as (v' := nI (fs.length - fs.length)) (by rw [Nat.sub_self]) ?_
  refine lv_istore_n (lv' := [(3, .int (nI (fs.length - fs.length))), (0, .ref (G.ad 102)), (1, .ref (G.ad b)), (2, .ref (G.ad r))]) hE.1 hE.2.1 dX4_readWhen_5 rfl hl (by decide) rfl (fun ls hl => ?_)
  refine rg_loop (σ := IV × JV × List (Nat × Nat) × Tok) (nL := 5) (fun (u : IV × JV × List (Nat × Nat) × Tok) => match u with | (iv2, jv2, fs2, t5) => 1000 - fs2.length) (fun (u : IV × JV × List (Nat × Nat) × Tok) => match u with | (iv2, jv2, fs2, t5) => [(0, .ref (G.ad 102)), (1, .ref (G.ad b)), (2, .ref (G.ad r)), (3, .int (nI (fs2.length - fs.length)))]) (fun (u : IV × JV × List (Nat × Nat) × Tok) => match u with | (iv2, jv2, fs2, t5) => G) (fun (u : IV × JV × List (Nat × Nat) × Tok) => match u with | (iv2, jv2, fs2, t5) => iv2) (fun (u : IV × JV × List (Nat × Nat) × Tok) => match u with | (iv2, jv2, fs2, t5) => jv2) (fun (u : IV × JV × List (Nat × Nat) × Tok) => match u with | (iv2, jv2, fs2, t5) => fs.length ≤ fs2.length ∧ TV B n t5 ∧ LR iv2 jv2 B n (nx B n t5) ∧ LI iv2 jv2 b ins ∧ CV iv2 jv2 (b + 20) outs ∧ iv2 r 0 = nI k ∧ 6 * fs2.length ≤ te t5 ∧ (∀ i, i < 5 → wcE iv2 r k i (colsOf ins i).length fs2 fs.length (fs2.length - fs.length)) ∧ rdTs B n ins (200 - fs2.length) fs2 t5 = rdTs B n ins (200 - fs.length) fs t ∧ Fr iv iv2 (pRw r k) ∧ FrJ jv jv2 qZ) ?_ ((iv1, jv, fs, t)) ⟨Nat.le_refl _, htv, hR, hI, hV, h0, h6, fun i hi => by rw [Nat.sub_self]; exact wcE_0 (cols_le hok i) (h63 i hi), rfl, hFr, hFj⟩ (lv_sub hl [1, 2, 3, 0] rfl) hH
  rintro ⟨iv2, jv2, fs2, t5⟩ H locs ls ⟨hfl, htv5, hR, hI, hV, h0, h6, hcl, hrt, hFr, hFj⟩ hl hH ih6
  try dsimp only at hl hH ih6
  try dsimp only at hfl htv5 hR hI hV h0 h6 hcl hrt hFr hFj
  have hten := (TV_b htv5).2.1
  rw [rdTs_go (by omega)] at hrt
  refine lv_iload_n hE.1 hE.2.1 dX4_readWhen_6 rfl (lv_at hl 3 rfl) ?_
  refine lv_sipush (v := nI 1000) hE.1 hE.2.1 dX4_readWhen_7 (by decide) ?_
  refine rn_icmp_ge (tgt := 130) hE dX4_readWhen_10 (by decide) (by omega) (by omega) (fun c10 => ?_) (fun c10 => ?_)
  · omega
  · refine lv_aload_n hE.1 hE.2.1 dX4_readWhen_13 rfl (lv_at hl 0 rfl) ?_
    refine rg_VI (As := []) (rest := []) hE hml hH mc_X4_95 (c_Pa_word l z G hX iv2 jv2 B n (nx B n t5) hR) (hX.1.1) (hX.1.2) (by decide) rfl ⟨Nat.le_of_ble_eq_true rfl, Nat.le_of_ble_eq_true rfl⟩ rfl hl.1 (by simp [Value.category]) dX4_readWhen_14 ⟨Nat.le_of_ble_eq_true rfl, Nat.le_of_ble_eq_true rfl⟩ (fun r14 G14 iv14 jv14 H locs hp14 hH => ?_)
    obtain ⟨rfl, rfl, hR, hfd14, hF14, hJ14⟩ := hp14
    have hFr := hFr.tr (hF14.mono (fun _ _ h => Or.inl h))
    have hFj := hFj.tr (hJ14.mono (fun _ _ h => h))
    have hI := hI.frZ hb hF14 hJ14
    have hV := hV.fr hF14 hJ14 (by simp only [pZ]; omega) (fun v => by simp only [qZ]; omega)
    have h0 : iv14 r 0 = nI k := (hF14 _ _ (by simp only [pZ]; omega)).trans h0
    have hcl : (∀ i, i < 5 → wcE iv14 r k i (colsOf ins i).length fs2 fs.length (fs2.length - fs.length)) := fun i hi => (hcl i hi).fr hF14 (by simp only [pZ]; omega)
    refine rn_ifb_ne (tgt := 22) hE dX4_readWhen_17 (by decide) (fun c17 => ?_) (fun c17 => ?_)
    · have hf := of_decide_eq_true c17
      refine lv_aload_n hE.1 hE.2.1 dX4_readWhen_22 rfl (lv_at hl 1 rfl) ?_
      refine lv_aload_n hE.1 hE.2.1 dX4_readWhen_23 rfl (lv_at hl 0 rfl) ?_
      refine rg_getr hE hH cf_X4 fl_X4_12 rfl (hX.1.1) (hX.1.2) (v := 103) (hX.2.2.2.2.2.2.1) dX4_readWhen_24 ?_
      refine rg_getj hE hH cf_X2 fl_X4_99 rfl (hX.2.1.1) (hX.2.1.2) (v := enc (wd B (nx B n t5))) (hR.wf hf) dX4_readWhen_27 ?_
      refine rg_VI (As := [.long (enc (wd B (nx B n t5)))]) (rest := []) hE hml hH mc_X4_103 (c_La_nm l z G iv14 jv14 b hL hb ins hI (wd B (nx B n t5)) (wOK_wd hR.tv hf)) (hL.1.1) (hL.1.2) (by decide) rfl ⟨Nat.le_of_ble_eq_true rfl, Nat.le_of_ble_eq_true rfl⟩ rfl hl.1 (by simp [Value.category]) dX4_readWhen_30 ⟨Nat.le_of_ble_eq_true rfl, Nat.le_of_ble_eq_true rfl⟩ (fun r30 G30 iv30 jv30 H locs hp30 hH => ?_)
      obtain ⟨rfl, rfl, rfl, rfl⟩ := hp30
      refine lv_istore (lv' := [(4, .int (oI (ixW (nmsOf ins) (wd B (nx B n t5))))), (0, .ref (G.ad 102)), (1, .ref (G.ad b)), (2, .ref (G.ad r)), (3, .int (nI (fs2.length - fs.length)))]) hE.1 hE.2.1 dX4_readWhen_33 hl (by decide) rfl (fun ls hl => ?_)
      refine lv_iload hE.1 hE.2.1 dX4_readWhen_35 (lv_at hl 0 rfl) ?_
      refine lv_iconst (v := -1) hE.1 hE.2.1 dX4_readWhen_37 (by decide) ?_
      refine lv_icmp_ne (tgt := 47) hE.1 hE.2.1 dX4_readWhen_38 (by decide) (fun c38 => ?_) (fun c38 => ?_)
      · obtain ⟨i, hix⟩ := oI_som c38
        have hil := (ixW_lt hix).1
        rw [List.length_map] at hil
        have hl : lv_has ls 5 [(4, .int (nI i)), (0, .ref (G.ad 102)), (1, .ref (G.ad b)), (2, .ref (G.ad r)), (3, .int (nI (fs2.length - fs.length)))] := by rw [hix] at hl; exact hl
        refine lv_aload_n hE.1 hE.2.1 dX4_readWhen_47 rfl (lv_at hl 1 rfl) ?_
        refine rg_getr hE hH cf_X4 fl_X4_12 rfl (hX.1.1) (hX.1.2) (v := 103) (hX.2.2.2.2.2.2.1) dX4_readWhen_48 ?_
        refine rg_VV (As := []) (rest := []) hE hml hH mc_X4_66 (c_Lx_next l z G hX iv14 jv14 B n (nx B n t5) hR (fr_ne hf)) (hX.2.1.1) (hX.2.1.2) (by decide) rfl ⟨Nat.le_of_ble_eq_true rfl, Nat.le_of_ble_eq_true rfl⟩ rfl hl.1 (by simp [Value.category]) dX4_readWhen_51 ⟨Nat.le_of_ble_eq_true rfl, Nat.le_of_ble_eq_true rfl⟩ (fun G51 iv51 jv51 H locs hp51 hH => ?_)
        obtain ⟨rfl, hR, hF51, hJ51⟩ := hp51
        have hJ51 : FrJ jv14 jv51 qZ := hJ51
        have hF51 : Fr iv14 iv51 pZ := hF51.mono (fun _ _ h => Or.inr h)
        have hFr := hFr.tr (hF51.mono (fun _ _ h => Or.inl h))
        have hFj := hFj.tr (hJ51.mono (fun _ _ h => h))
        have hI := hI.frZ hb hF51 hJ51
        have hV := hV.fr hF51 hJ51 (by simp only [pZ]; omega) (fun v => by simp only [qZ]; omega)
        have h0 : iv51 r 0 = nI k := (hF51 _ _ (by simp only [pZ]; omega)).trans h0
        have hcl : (∀ i, i < 5 → wcE iv51 r k i (colsOf ins i).length fs2 fs.length (fs2.length - fs.length)) := fun i hi => (hcl i hi).fr hF51 (by simp only [pZ]; omega)
        refine lv_aload_n hE.1 hE.2.1 dX4_readWhen_54 rfl (lv_at hl 1 rfl) ?_
        refine lv_bipush (v := nI 12) hE.1 hE.2.1 dX4_readWhen_55 (by decide) ?_
        refine rg_VI (As := [.int (nI 12)]) (rest := []) hE hml hH mc_X4_88 (c_Pa_pass l z G hX iv51 jv51 B n (nx B n (nx B n t5)) hR 12 (by decide)) (hX.1.1) (hX.1.2) (by decide) rfl ⟨Nat.le_of_ble_eq_true rfl, Nat.le_of_ble_eq_true rfl⟩ rfl hl.1 (by simp [Value.category]) dX4_readWhen_57 ⟨Nat.le_of_ble_eq_true rfl, Nat.le_of_ble_eq_true rfl⟩ (fun r57 G57 iv57 jv57 H locs hp57 hH => ?_)
        obtain ⟨rfl, rfl, hR, hfd57, hF57, hJ57⟩ := hp57
        have hFr := hFr.tr (hF57.mono (fun _ _ h => Or.inl h))
        have hFj := hFj.tr (hJ57.mono (fun _ _ h => h))
        have hI := hI.frZ hb hF57 hJ57
        have hV := hV.fr hF57 hJ57 (by simp only [pZ]; omega) (fun v => by simp only [qZ]; omega)
        have h0 : iv57 r 0 = nI k := (hF57 _ _ (by simp only [pZ]; omega)).trans h0
        have hcl : (∀ i, i < 5 → wcE iv57 r k i (colsOf ins i).length fs2 fs.length (fs2.length - fs.length)) := fun i hi => (hcl i hi).fr hF57 (by simp only [pZ]; omega)
        refine rn_ifb_eq (tgt := 80) hE dX4_readWhen_60 (by decide) (fun c60 => ?_) (fun c60 => ?_)
        · have hn12 := of_decide_eq_false c60
          rw [if_neg hn12] at hR
          have hT := rdTest_s hf hix (fun h => hn12 ((kd_sg (c := 58) hR.tv (by decide)).mpr h))
          rw [hT, if_pos (by simp)] at hrt
          have hb1 := rdWhen_b (outs := outs) (show (rdTs B n ins (200 - fs.length) fs t).1 ≠ 0 by rw [← hrt]; exact (by simp))
          rw [← hrt] at hb1
          refine lv_iconst (v := nI 0) hE.1 hE.2.1 dX4_readWhen_80 (by decide) ?_
          exact rg_iret hE hr (nz_0) hlk hH ⟨rfl, zero_bI (by rw [hb1.1]; exact decide_eq_false (by simp)), by rw [hb1.2]; exact hR, fun _ => by rw [hb1.1]; exact hfd57 hn12, fun h => absurd (by rw [hb1.1] at h; exact h) (by simp), hFr, hFj⟩ dX4_readWhen_81
        · have h12 := of_decide_eq_true c60
          rw [if_pos h12] at hR
          have hT := rdTest_k hf hix ((kd_sg (c := 58) (TV_nx (TV_nx htv5)) (by decide)).mp h12)
          obtain ⟨x, hx, hx64, hxv⟩ := hcl i (by omega)
          have htc := hR.tv
          refine lv_aload_n hE.1 hE.2.1 dX4_readWhen_63 rfl (lv_at hl 1 rfl) ?_
          refine lv_aload_n hE.1 hE.2.1 dX4_readWhen_64 rfl (lv_at hl 2 rfl) ?_
          refine rg_getr hE hH cf_X1 fl_X4_69 rfl (hL.1.1) (hL.1.2) (v := b + 1) (hL.2.2.2.2.1) dX4_readWhen_65 ?_
          refine lv_iload hE.1 hE.2.1 dX4_readWhen_68 (lv_at hl 0 rfl) ?_
          refine rg_aldr hE hH (hL.2.1.1) (hL.2.1.2.1) (by decide) (by decide) (by omega) (v := b + 10 + 2 * i) (hL.2.2.2.2.2.1 i (by omega)) dX4_readWhen_70 ?_
          refine lv_aload_n hE.1 hE.2.1 dX4_readWhen_71 rfl (lv_at hl 3 rfl) ?_
          refine lv_iload hE.1 hE.2.1 dX4_readWhen_72 (lv_at hl 0 rfl) ?_
          refine rg_VI (As := [.ref (G.ad (b + 10 + 2 * i)), .ref (G.ad r), .int (nI i)]) (rest := []) hE hml hH mc_X4_129 (c_Pa_cell l z G hX iv57 jv57 B n (nx B n (nx B n (nx B n t5))) hR (b + 10 + 2 * i) (hL.2.2.1 i (by omega)) (by omega) (colsOf ins i) (hI.2.2.2 i (by omega)).2.2 r hRo hr1 k i x hk (by omega) hx64 h0 hx) (hX.1.1) (hX.1.2) (by decide) rfl ⟨Nat.le_of_ble_eq_true rfl, Nat.le_of_ble_eq_true rfl⟩ rfl hl.1 (by simp [Value.category]) dX4_readWhen_74 ⟨Nat.le_of_ble_eq_true rfl, Nat.le_of_ble_eq_true rfl⟩ (fun r74 G74 iv74 jv74 H locs hp74 hH => ?_)
          obtain ⟨rfl, rfl, hR, hfd74, hcc74, hF74, hJ74⟩ := hp74
          have hF74w : Fr iv57 iv74 (pRw r k) := hF74.mono (fun lb j h => pRc_R (by omega) h)
          have hFr := hFr.tr hF74w
          have hFj := hFj.tr hJ74
          have hI := hI.frQ hb hdis hF74w hJ74
          have hV := hV.frQ hb hdis hF74w hJ74
          have h0 : iv74 r 0 = nI k := (hF74 _ _ (by simp only [pRc, pZ]; omega)).trans h0
          refine rn_ifb_ne (tgt := 82) hE dX4_readWhen_77 (by decide) (fun c77 => ?_) (fun c77 => ?_)
          · have hc0 := of_decide_eq_true c77
            obtain ⟨a, ha1, ha2⟩ := hcc74 hc0
            have hT0 : (rdTest B n ins (nx B n t5)).1 = 0 := by rw [hT]; exact hc0
            have hts := fun hk => ts_step hok htv5 h6 hT0 hk
            have hto := rdTest_ok hok (TV_nx htv5)
            have hcl2 : ∀ j, j < 5 → wcE iv74 r k j (colsOf ins j).length (fs2 ++ [(i, (rdCell B n (colsOf ins i) 0 (nx B n (nx B n (nx B n t5)))).2.1)]) fs.length ((fs2 ++ [(i, (rdCell B n (colsOf ins i) 0 (nx B n (nx B n (nx B n t5)))).2.1)]).length - fs.length) := by
              have h := wcE_add (n := fun i => (colsOf ins i).length) hcl (by omega) hF74 hr1 hxv hx64 ha1 ha2
              rw [show (fs2 ++ [(i, (rdCell B n (colsOf ins i) 0 (nx B n (nx B n (nx B n t5)))).2.1)]).length - fs.length = fs2.length - fs.length + 1 by rw [List.length_append, List.length_singleton]; omega]
              exact h
            rw [hT] at hrt hts hto
            rw [if_neg (by simp [hc0])] at hrt
            have htv6 := hto.1
            refine lv_aload_n hE.1 hE.2.1 dX4_readWhen_82 rfl (lv_at hl 1 rfl) ?_
            refine rg_getr hE hH cf_X4 fl_X4_12 rfl (hX.1.1) (hX.1.2) (v := 103) (hX.2.2.2.2.2.2.1) dX4_readWhen_83 ?_
            refine rg_geti hE hH cf_X2 fl_X4_59 rfl (hX.2.1.1) (hX.2.1.2) (v := nI (kdT B ((rdCell B n (colsOf ins i) 0 (nx B n (nx B n (nx B n t5)))).2.2))) (hR.kd) dX4_readWhen_86 ?_
            refine lv_iconst (v := nI 5) hE.1 hE.2.1 dX4_readWhen_89 (by decide) ?_
            refine rn_icmp_eq (tgt := 117) hE dX4_readWhen_90 (by decide) (by have := hR.k16; omega) (by have := hR.k16; omega) (fun c90 => ?_) (fun c90 => ?_)
            · have hand := (kd_kw (i := 23) hR.tv (by decide)).mp c90
              rw [if_pos hand] at hrt
              have h62 := hts hand
              refine lv_aload_n hE.1 hE.2.1 dX4_readWhen_117 rfl (lv_at hl 1 rfl) ?_
              refine rg_getr hE hH cf_X4 fl_X4_12 rfl (hX.1.1) (hX.1.2) (v := 103) (hX.2.2.2.2.2.2.1) dX4_readWhen_118 ?_
              refine rg_VV (As := []) (rest := []) hE hml hH mc_X4_66 (c_Lx_next l z G hX iv74 jv74 B n ((rdCell B n (colsOf ins i) 0 (nx B n (nx B n (nx B n t5)))).2.2) hR (nx_ne hR.tv c90 (by decide))) (hX.2.1.1) (hX.2.1.2) (by decide) rfl ⟨Nat.le_of_ble_eq_true rfl, Nat.le_of_ble_eq_true rfl⟩ rfl hl.1 (by simp [Value.category]) dX4_readWhen_121 ⟨Nat.le_of_ble_eq_true rfl, Nat.le_of_ble_eq_true rfl⟩ (fun G121 iv121 jv121 H locs hp121 hH => ?_)
              obtain ⟨rfl, hR, hF121, hJ121⟩ := hp121
              have hJ121 : FrJ jv74 jv121 qZ := hJ121
              have hF121 : Fr iv74 iv121 pZ := hF121.mono (fun _ _ h => Or.inr h)
              have hFr := hFr.tr (hF121.mono (fun _ _ h => Or.inl h))
              have hFj := hFj.tr (hJ121.mono (fun _ _ h => h))
              have hI := hI.frZ hb hF121 hJ121
              have hV := hV.fr hF121 hJ121 (by simp only [pZ]; omega) (fun v => by simp only [qZ]; omega)
              have h0 : iv121 r 0 = nI k := (hF121 _ _ (by simp only [pZ]; omega)).trans h0
              have hcl2 : ∀ j, j < 5 → wcE iv121 r k j (colsOf ins j).length (fs2 ++ [(i, (rdCell B n (colsOf ins i) 0 (nx B n (nx B n (nx B n t5)))).2.1)]) fs.length ((fs2 ++ [(i, (rdCell B n (colsOf ins i) 0 (nx B n (nx B n (nx B n t5)))).2.1)]).length - fs.length) := fun j hj => (hcl2 j hj).fr hF121 (by simp only [pZ]; omega)
              refine lv_iinc (v := nI (fs2.length - fs.length + 1)) (lv' := [(3, .int (nI (fs2.length - fs.length + 1))), (4, .int (nI i)), (0, .ref (G.ad 102)), (1, .ref (G.ad b)), (2, .ref (G.ad r))]) hE.1 hE.2.1 dX4_readWhen_124 hl (k := 4) rfl (nI_1 _) (by decide) rfl (fun ls hl => ?_)
              have hl : lv_has ls 5 [(3, .int (nI ((fs2 ++ [(i, (rdCell B n (colsOf ins i) 0 (nx B n (nx B n (nx B n t5)))).2.1)]).length - fs.length))), (4, .int (nI i)), (0, .ref (G.ad 102)), (1, .ref (G.ad b)), (2, .ref (G.ad r))] := by rw [show (fs2 ++ [(i, (rdCell B n (colsOf ins i) 0 (nx B n (nx B n (nx B n t5)))).2.1)]).length - fs.length = fs2.length - fs.length + 1 by rw [List.length_append, List.length_singleton]; omega]; exact hl
              refine lv_goto (tgt := 6) hE.1 hE.2.1 dX4_readWhen_127 (by decide) ?_
              exact ih6 (iv121, jv121, fs2 ++ [(i, (rdCell B n (colsOf ins i) 0 (nx B n (nx B n (nx B n t5)))).2.1)], (rdCell B n (colsOf ins i) 0 (nx B n (nx B n (nx B n t5)))).2.2) _ _ _ (show 1000 - (fs2 ++ [_]).length < 1000 - fs2.length by rw [List.length_append, List.length_singleton]; omega) ⟨by rw [List.length_append, List.length_singleton]; omega, htv6, hR, hI, hV, h0, by rw [List.length_append, List.length_singleton]; exact h62, hcl2, hrt, hFr, hFj⟩ (lv_sub hl [2, 3, 4, 0] rfl) hH
            · rw [if_neg (fun h => c90 ((kd_kw (i := 23) hR.tv (by decide)).mpr h))] at hrt
              have hq0 : (rdTs B n ins (200 - fs.length) fs t).1 = 0 := by rw [← hrt]
              have hq2 : (rdTs B n ins (200 - fs.length) fs t).2.2 = (rdCell B n (colsOf ins i) 0 (nx B n (nx B n (nx B n t5)))).2.2 := by rw [← hrt]
              have hq1 : (rdTs B n ins (200 - fs.length) fs t).2.1 = fs2 ++ [(i, (rdCell B n (colsOf ins i) 0 (nx B n (nx B n (nx B n t5)))).2.1)] := by rw [← hrt]
              refine lv_aload_n hE.1 hE.2.1 dX4_readWhen_93 rfl (lv_at hl 1 rfl) ?_
              refine lv_bipush (v := nI 6) hE.1 hE.2.1 dX4_readWhen_94 (by decide) ?_
              refine rg_VI (As := [.int (nI 6)]) (rest := []) hE hml hH mc_X4_88 (c_Pa_pass l z G hX iv74 jv74 B n ((rdCell B n (colsOf ins i) 0 (nx B n (nx B n (nx B n t5)))).2.2) hR 6 (by decide)) (hX.1.1) (hX.1.2) (by decide) rfl ⟨Nat.le_of_ble_eq_true rfl, Nat.le_of_ble_eq_true rfl⟩ rfl hl.1 (by simp [Value.category]) dX4_readWhen_96 ⟨Nat.le_of_ble_eq_true rfl, Nat.le_of_ble_eq_true rfl⟩ (fun r96 G96 iv96 jv96 H locs hp96 hH => ?_)
              obtain ⟨rfl, rfl, hR, hfd96, hF96, hJ96⟩ := hp96
              have hFr := hFr.tr (hF96.mono (fun _ _ h => Or.inl h))
              have hFj := hFj.tr (hJ96.mono (fun _ _ h => h))
              have hV := hV.fr hF96 hJ96 (by simp only [pZ]; omega) (fun v => by simp only [qZ]; omega)
              have h0 : iv96 r 0 = nI k := (hF96 _ _ (by simp only [pZ]; omega)).trans h0
              have hcl2 : ∀ j, j < 5 → wcE iv96 r k j (colsOf ins j).length (fs2 ++ [(i, (rdCell B n (colsOf ins i) 0 (nx B n (nx B n (nx B n t5)))).2.1)]) fs.length ((fs2 ++ [(i, (rdCell B n (colsOf ins i) 0 (nx B n (nx B n (nx B n t5)))).2.1)]).length - fs.length) := fun j hj => (hcl2 j hj).fr hF96 (by simp only [pZ]; omega)
              refine rn_ifb_eq (tgt := 115) hE dX4_readWhen_99 (by decide) (fun c99 => ?_) (fun c99 => ?_)
              · have hn6 := of_decide_eq_false c99
                rw [if_neg hn6] at hR
                have hb1 := rdWhen_a (outs := outs) hq0 (by rw [hq2]; cases hq : kwP B (rdCell B n (colsOf ins i) 0 (nx B n (nx B n (nx B n t5)))).2.2 24 with | false => rfl | true => exact absurd ((kd_kw (i := 24) hR.tv (by decide)).mpr hq) hn6)
                rw [hq2] at hb1
                refine lv_iconst (v := nI 0) hE.1 hE.2.1 dX4_readWhen_115 (by decide) ?_
                exact rg_iret hE hr (nz_0) hlk hH ⟨rfl, zero_bI (by rw [hb1.1]; exact decide_eq_false (by decide)), by rw [hb1.2]; exact hR, fun _ => by rw [hb1.1]; exact hfd96 hn6, fun h => absurd (by rw [hb1.1] at h; exact h) (by decide), hFr, hFj⟩ dX4_readWhen_116
              · have h6k := of_decide_eq_true c99
                rw [if_pos h6k] at hR
                have hro := rdWhen_o (outs := outs) hq0 (by rw [hq2]; exact (kd_kw (i := 24) htv6 (by decide)).mp h6k)
                rw [hq2, hq1] at hro
                refine lv_aload_n hE.1 hE.2.1 dX4_readWhen_102 rfl (lv_at hl 1 rfl) ?_
                refine lv_aload_n hE.1 hE.2.1 dX4_readWhen_103 rfl (lv_at hl 2 rfl) ?_
                refine lv_aload_n hE.1 hE.2.1 dX4_readWhen_104 rfl (lv_at hl 3 rfl) ?_
                refine rg_VI (As := [.ref (G.ad b), .ref (G.ad r)]) (rest := []) hE hml hH mc_X4_133 (c_Pa_oc l z G hX iv96 jv96 B n (nx B n (rdCell B n (colsOf ins i) 0 (nx B n (nx B n (nx B n t5)))).2.2) hR b hL hb outs hV r hRo hr1 k hk h0) (hX.1.1) (hX.1.2) (by decide) rfl ⟨Nat.le_of_ble_eq_true rfl, Nat.le_of_ble_eq_true rfl⟩ rfl hl.1 (by simp [Value.category]) dX4_readWhen_105 ⟨Nat.le_of_ble_eq_true rfl, Nat.le_of_ble_eq_true rfl⟩ (fun r105 G105 iv105 jv105 H locs hp105 hH => ?_)
                obtain ⟨rfl, rfl, hR, hfd105, hoc105, hF105, hJ105⟩ := hp105
                have hFr := hFr.tr (hF105.mono (fun lb j h => pOc_R h))
                have hFj := hFj.tr hJ105
                refine rn_ifb_eq (tgt := 115) hE dX4_readWhen_108 (by decide) (fun c108 => ?_) (fun c108 => ?_)
                · refine lv_iconst (v := nI 0) hE.1 hE.2.1 dX4_readWhen_115 (by decide) ?_
                  exact rg_iret hE hr (nz_0) hlk hH ⟨rfl, zero_bI (by rw [hro]; exact c108), by rw [hro]; exact hR, fun _ => by rw [hro]; exact hfd105 (of_decide_eq_false c108), fun h => absurd (by rw [hro] at h; exact h) (of_decide_eq_false c108), hFr, hFj⟩ dX4_readWhen_116
                · refine lv_iconst (v := nI 1) hE.1 hE.2.1 dX4_readWhen_111 (by decide) ?_
                  refine lv_goto (tgt := 116) hE.1 hE.2.1 dX4_readWhen_112 (by decide) ?_
                  exact rg_iret hE hr (nz_1) hlk hH ⟨rfl, one_bI (by rw [hro]; exact c108), by rw [hro]; exact hR, fun h => absurd (by rw [hro]; exact of_decide_eq_true c108) h, fun _ => by
                    rw [hro]
                    have ho := hoc105 (of_decide_eq_true c108)
                    exact ⟨ho.1, fun j hj => (hcl2 j hj).fr hF105 (by simp only [pOc, pZ]; omega), ho.2⟩, hFr, hFj⟩ dX4_readWhen_116
          · have hc0 := of_decide_eq_false c77
            rw [hT, if_pos hc0] at hrt
            have hb1 := rdWhen_b (outs := outs) (show (rdTs B n ins (200 - fs.length) fs t).1 ≠ 0 by rw [← hrt]; exact hc0)
            rw [← hrt] at hb1
            refine lv_iconst (v := nI 0) hE.1 hE.2.1 dX4_readWhen_80 (by decide) ?_
            exact rg_iret hE hr (nz_0) hlk hH ⟨rfl, zero_bI (by rw [hb1.1]; exact decide_eq_false hc0), by rw [hb1.2]; exact hR, fun _ => by rw [hb1.1]; exact hfd74 hc0, fun h => absurd (by rw [hb1.1] at h; exact h) hc0, hFr, hFj⟩ dX4_readWhen_81
      · rw [oI_m1 (fun k hk => by have := (ixW_lt hk).1; rw [List.length_map] at this; omega)] at c38
        have hT := rdTest_n (n := n) hf c38
        rw [hT, if_pos (by simp)] at hrt
        have hb1 := rdWhen_b (outs := outs) (show (rdTs B n ins (200 - fs.length) fs t).1 ≠ 0 by rw [← hrt]; exact (by simp))
        rw [← hrt] at hb1
        refine lv_aload_n hE.1 hE.2.1 dX4_readWhen_41 rfl (lv_at hl 1 rfl) ?_
        refine lv_iconst (v := nI 3) hE.1 hE.2.1 dX4_readWhen_42 (by decide) ?_
        refine rg_VI (As := [.int (nI 3)]) (rest := []) hE hml hH mc_X4_62 (c_Pa_refuse l z G hX iv14 jv14 3) (hX.1.1) (hX.1.2) (by decide) rfl ⟨Nat.le_of_ble_eq_true rfl, Nat.le_of_ble_eq_true rfl⟩ rfl hl.1 (by simp [Value.category]) dX4_readWhen_43 ⟨Nat.le_of_ble_eq_true rfl, Nat.le_of_ble_eq_true rfl⟩ (fun r43 G43 iv43 jv43 H locs hp43 hH => ?_)
        obtain ⟨rfl, hiv43, rfl, rfl⟩ := hp43
        have hF43 : Fr iv14 iv43 pZ := by rw [hiv43]; exact Fr.up Fr.rf (Or.inl ⟨rfl, rfl⟩)
        have hFr := hFr.tr (hF43.mono (fun _ _ h => Or.inl h))
        have hR : LR iv43 jv14 B n (nx B n t5) := by rw [hiv43]; exact hR.up (by decide) (by decide) (by decide)
        have hfd : iv43 102 1 = nI 3 := by rw [hiv43]; rfl
        exact rg_iret hE hr (nz_0) hlk hH ⟨rfl, zero_bI (by rw [hb1.1]; exact decide_eq_false (by simp)), by rw [hb1.2]; exact hR, fun _ => by rw [hb1.1]; exact hfd, fun h => absurd (by rw [hb1.1] at h; exact h) (by simp), hFr, hFj⟩ dX4_readWhen_46
    · have hf := of_decide_eq_false c17
      have hT : rdTest B n ins (nx B n t5) = (frF B (nx B n t5), (0, 0), nx B n t5) := by rw [rdTest, if_pos hf]
      rw [hT, if_pos hf] at hrt
      have hb1 := rdWhen_b (outs := outs) (show (rdTs B n ins (200 - fs.length) fs t).1 ≠ 0 by rw [← hrt]; exact hf)
      rw [← hrt] at hb1
      refine lv_iconst (v := nI 0) hE.1 hE.2.1 dX4_readWhen_20 (by decide) ?_
      exact rg_iret hE hr (nz_0) hlk hH ⟨rfl, zero_bI (by rw [hb1.1]; exact decide_eq_false hf), by rw [hb1.2]; exact hR, fun _ => by rw [hb1.1]; exact hfd14 hf, fun h => absurd (by rw [hb1.1] at h; exact h) hf, hFr, hFj⟩ dX4_readWhen_21
