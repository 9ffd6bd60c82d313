set_option maxRecDepth 100000 in
set_option maxHeartbeats 4000000 in
theorem c_Pa_ins (l : Launch) (z : ZK) (G : GW) (hX : isPx G) (iv : IV) (jv : JV) (B : Nat → Nat) (n : Nat) (t : Tok) (hR : LR iv jv B n t) (b : Nat) (hL : isLa G b) (hb : 1000 ≤ b) (h0 : iv b 0 = nI 0) (h1 : iv b 1 = nI 1) (hz : ∀ i, i < 6 → iv (b + 10 + 2 * i) 1 = nI 0) (h30 : iv (b + 30) 0 = nI 0) : cI l z yX4_readInputs cX4_readInputs 4 (some .boolean) 4 90 0 0 [.ref (G.ad 102), .ref (G.ad b)] G iv jv (fun r G' iv' jv' => G = G' ∧ r = bI (decide ((rdInputs B n 6 [] t).1 = 0)) ∧ LR iv' jv' B n (rdInputs B n 6 [] t).2.2 ∧ ((rdInputs B n 6 [] t).1 ≠ 0 → iv' 102 1 = nI (rdInputs B n 6 [] t).1) ∧ ((rdInputs B n 6 [] t).1 = 0 → LI iv' jv' b (rdInputs B n 6 [] t).2.1 ∧ iv' (b + 20) 1 = nI 0) ∧ Fr iv iv' (pB b) ∧ FrJ jv jv' (qB b) ∧ iv' (b + 30) 0 = nI 0) := by
  intro sz
  refine rg_entry rfl (Nat.le_of_ble_eq_true rfl) ?_
  intro pq eq sq mq bq methq cq ls hE hr hlk hml hnm hl hsz hH
  have hl : lv_has ls 4 [(0, .ref (G.ad 102)), (1, .ref (G.ad b))] := hl
  have hl1 : G.ln (b + 1) = 5 := hL.2.1.2.2
  refine lv_iconst (v := nI 0) hE.1 hE.2.1 dX4_readInputs_0 (by decide) ?_
  refine lv_istore_n (lv' := [(2, .int (nI 0)), (0, .ref (G.ad 102)), (1, .ref (G.ad b))]) hE.1 hE.2.1 dX4_readInputs_1 rfl hl (by decide) rfl (fun ls hl => ?_)
  refine rg_loop (σ := IV × JV × List Col × Tok) (nL := 4) (fun (u : IV × JV × List Col × Tok) => match u with | (iv2, jv2, ins, t5) => 6 - ins.length) (fun (u : IV × JV × List Col × Tok) => match u with | (iv2, jv2, ins, t5) => [(0, .ref (G.ad 102)), (1, .ref (G.ad b)), (2, .int (nI ins.length))]) (fun (u : IV × JV × List Col × Tok) => match u with | (iv2, jv2, ins, t5) => G) (fun (u : IV × JV × List Col × Tok) => match u with | (iv2, jv2, ins, t5) => iv2) (fun (u : IV × JV × List Col × Tok) => match u with | (iv2, jv2, ins, t5) => jv2) (fun (u : IV × JV × List Col × Tok) => match u with | (iv2, jv2, ins, t5) => LR iv2 jv2 B n t5 ∧ LI iv2 jv2 b ins ∧ insOK ins ∧ (∀ i, ins.length ≤ i → i < 6 → iv2 (b + 10 + 2 * i) 1 = nI 0) ∧ rdInputs B n (6 - ins.length) ins t5 = rdInputs B n 6 [] t ∧ Fr iv iv2 (pB b) ∧ FrJ jv jv2 (qB b) ∧ iv2 (b + 30) 0 = nI 0) ?_ ((iv, jv, [], t)) ⟨hR, ⟨h0, h1, Nat.zero_le _, fun i hi => absurd hi (Nat.not_lt_zero i)⟩, ⟨Nat.zero_le _, fun i hi => absurd hi (Nat.not_lt_zero i), by decide, List.nodup_nil, fun i hi => absurd hi (Nat.not_lt_zero i)⟩, fun i _ hi => hz i hi, rfl, Fr.rf, FrJ.rf, h30⟩ (lv_sub hl [1, 2, 0] rfl) hH
  rintro ⟨iv2, jv2, ins, t5⟩ H locs ls ⟨hR, hI, hok, hz, hri, hFr, hFj, h30⟩ hl hH ih2
  try dsimp only at hl hH ih2
  try dsimp only at hR hI hok hz hri hFr hFj h30
  have h5 := hI.2.2.1
  rw [rdInputs_go h5] at hri
  refine lv_iload_n hE.1 hE.2.1 dX4_readInputs_2 rfl (lv_at hl 2 rfl) ?_
  refine lv_iconst (v := nI 5) hE.1 hE.2.1 dX4_readInputs_3 (by decide) ?_
  refine rn_icmp_gt (tgt := 107) hE dX4_readInputs_4 (by decide) (by omega) (by omega) (fun c4 => ?_) (fun c4 => ?_)
  · omega
  · refine lv_iload_n hE.1 hE.2.1 dX4_readInputs_7 rfl (lv_at hl 2 rfl) ?_
    refine rn_if_le (tgt := 24) hE dX4_readInputs_8 (by decide) (by omega) (fun c8 => ?_) (fun c8 => ?_)
    · rw [if_neg (fun h => h.1 (by omega))] at hri
      refine lv_aload_n hE.1 hE.2.1 dX4_readInputs_24 rfl (lv_at hl 0 rfl) ?_
      refine rg_getr hE hH cf_X4 fl_X4_12 rfl (hX.1.1) (hX.1.2) (v := 103) (hX.2.2.2.2.2.2.1) dX4_readInputs_25 ?_
      refine rg_geti hE hH cf_X2 fl_X4_59 rfl (hX.2.1.1) (hX.2.1.2) (v := nI (kdT B t5)) (hR.kd) dX4_readInputs_28 ?_
      refine lv_iconst (v := nI 1) hE.1 hE.2.1 dX4_readInputs_31 (by decide) ?_
      refine rn_icmp_eq (tgt := 41) hE dX4_readInputs_32 (by decide) (by have := hR.k16; omega) (by have := hR.k16; omega) (fun c32 => ?_) (fun c32 => ?_)
      · rw [if_neg (by rw [(kd_kw (i := 20) hR.tv (by decide)).mp c32]; decide)] at hri
        refine lv_iload_n hE.1 hE.2.1 dX4_readInputs_41 rfl (lv_at hl 2 rfl) ?_
        refine lv_iconst (v := nI 5) hE.1 hE.2.1 dX4_readInputs_42 (by decide) ?_
        refine rn_icmp_lt (tgt := 52) hE dX4_readInputs_43 (by decide) (by omega) (by omega) (fun c43 => ?_) (fun c43 => ?_)
        · rw [if_neg (by omega)] at hri
          have htv5 := hR.tv
          refine lv_aload_n hE.1 hE.2.1 dX4_readInputs_52 rfl (lv_at hl 0 rfl) ?_
          refine rg_getr hE hH cf_X4 fl_X4_12 rfl (hX.1.1) (hX.1.2) (v := 103) (hX.2.2.2.2.2.2.1) dX4_readInputs_53 ?_
          refine rg_VV (As := []) (rest := []) hE hml hH mc_X4_66 (c_Lx_next l z G hX iv2 jv2 B n t5 hR (nx_ne hR.tv c32 (by decide))) (hX.2.1.1) (hX.2.1.2) (by decide) rfl ⟨Nat.le_of_ble_eq_true rfl, Nat.le_of_ble_eq_true rfl⟩ rfl hl.1 (by simp [Value.category]) dX4_readInputs_56 ⟨Nat.le_of_ble_eq_true rfl, Nat.le_of_ble_eq_true rfl⟩ (fun G56 iv56 jv56 H locs hp56 hH => ?_)
          obtain ⟨rfl, hR, hF56, hJ56⟩ := hp56
          have hJ56 : FrJ jv2 jv56 qZ := hJ56
          have hF56 : Fr iv2 iv56 pZ := hF56.mono (fun _ _ h => Or.inr h)
          have hFr := hFr.tr (hF56.mono (fun _ _ h => Or.inl h))
          have hFj := hFj.tr (hJ56.mono (fun _ _ h => Or.inl h))
          have htv := (show TV B n t5 from htv5)
          have h30 : iv56 (b + 30) 0 = nI 0 := (hF56 _ _ (by simp only [pZ]; omega)).trans h30
          have hI := hI.frZ hb hF56 hJ56
          have hz : ∀ i, ins.length ≤ i → i < 6 → iv56 (b + 10 + 2 * i) 1 = nI 0 := fun i h1 h2 => (hF56 _ _ (by simp only [pZ]; omega)).trans (hz i h1 h2)
          refine lv_aload_n hE.1 hE.2.1 dX4_readInputs_59 rfl (lv_at hl 1 rfl) ?_
          refine rg_getr hE hH cf_X1 fl_X4_69 rfl (hL.1.1) (hL.1.2) (v := b + 1) (hL.2.2.2.2.1) dX4_readInputs_60 ?_
          refine lv_iload_n hE.1 hE.2.1 dX4_readInputs_63 rfl (lv_at hl 2 rfl) ?_
          refine rg_aldr hE hH (hL.2.1.1) (hL.2.1.2.1) (by decide) (by decide) (by omega) (v := b + 10 + 2 * ins.length) (hL.2.2.2.2.2.1 ins.length (by omega)) dX4_readInputs_64 ?_
          refine lv_astore_n (lv' := [(3, .ref (G.ad (b + 10 + 2 * ins.length))), (0, .ref (G.ad 102)), (1, .ref (G.ad b)), (2, .int (nI ins.length))]) hE.1 hE.2.1 dX4_readInputs_65 rfl hl (by decide) rfl (fun ls hl => ?_)
          refine lv_aload_n hE.1 hE.2.1 dX4_readInputs_66 rfl (lv_at hl 1 rfl) ?_
          refine lv_aload_n hE.1 hE.2.1 dX4_readInputs_67 rfl (lv_at hl 2 rfl) ?_
          refine lv_aload_n hE.1 hE.2.1 dX4_readInputs_68 rfl (lv_at hl 0 rfl) ?_
          refine lv_aload_n hE.1 hE.2.1 dX4_readInputs_69 rfl (lv_at hl 2 rfl) ?_
          refine rg_geti hE hH cf_X1 fl_X4_73 rfl (hL.1.1) (hL.1.2) (v := nI (csz (szs ins))) (hI.2.1) dX4_readInputs_70 ?_
          refine rg_VI (As := [.ref (G.ad b), .ref (G.ad (b + 10 + 2 * ins.length)), .int (nI (csz (szs ins)))]) (rest := []) hE hml hH mc_X4_76 (c_Pa_col l z G hX iv56 jv56 B n t5 htv5 hR b hL hb ins hI (b + 10 + 2 * ins.length) (hL.2.2.1 ins.length (by omega)) (by omega) (CV.nil (hz _ (Nat.le_refl _) (by omega))) (csz (szs ins)) hok.2.2.1) (hX.1.1) (hX.1.2) (by decide) rfl ⟨Nat.le_of_ble_eq_true rfl, Nat.le_of_ble_eq_true rfl⟩ rfl hl.1 (by simp [Value.category]) dX4_readInputs_73 ⟨Nat.le_of_ble_eq_true rfl, Nat.le_of_ble_eq_true rfl⟩ (fun r73 G73 iv73 jv73 H locs hp73 hH => ?_)
          obtain ⟨rfl, rfl, hR, hfd73, hcv73, hF73, hJ73⟩ := hp73
          have hFr := hFr.tr (hF73.mono (fun lb j h => by simp only [pCo, pB] at h ⊢; omega))
          have hFj := hFj.tr (hJ73.mono (fun lb j h => by simp only [qCo, qB] at h ⊢; omega))
          refine rn_ifb_ne (tgt := 81) hE dX4_readInputs_76 (by decide) (fun c76 => ?_) (fun c76 => ?_)
          · have hc0 := of_decide_eq_true c76
            rw [if_neg (by simp [hc0])] at hri
            obtain ⟨hcn, hcV⟩ := hcv73 hc0
            have hrok := rdCol_ok hc0
            have hrw := rdCol_w hc0 htv5
            have hok2 := insOK_add (c := ((rdCol B n (nmsOf ins) (csz (szs ins)) t5).2.1, (rdCol B n (nmsOf ins) (csz (szs ins)) t5).2.2.1)) hok (by omega) hrok.1 hrok.2.1 hrok.2.2 hrw.2.1 hrw.1 hrw.2.2.1
            have hI := hI.frC (c := b + 10 + 2 * ins.length) hb (fun i hi => by omega) (by omega) hF73 hJ73
            have h30 : iv73 (b + 30) 0 = nI 0 := (hF73 _ _ (by simp only [pCo, pZ]; omega)).trans h30
            refine lv_aload_n hE.1 hE.2.1 dX4_readInputs_81 rfl (lv_at hl 2 rfl) ?_
            refine lv_iload_n hE.1 hE.2.1 dX4_readInputs_82 rfl (lv_at hl 3 rfl) ?_
            refine lv_iconst (v := nI 1) hE.1 hE.2.1 dX4_readInputs_83 (by decide) ?_
            refine rn_iadd hE dX4_readInputs_84 ?_
            refine rg_puti hE hH cf_X1 fl_X4_80 rfl fn_X1_0 (hL.1.1) (hL.1.2) (v := nI (ins.length + 1)) dX4_readInputs_85 (fun H locs hH => ?_)
            have h1x : (up2 iv73 b 0 (nI (ins.length + 1))) b 1 = nI (csz (szs ins)) := by rw [up2_k (by decide)]; exact hI.2.1
            have hsx : (up2 iv73 b 0 (nI (ins.length + 1))) (b + 10 + 2 * ins.length) 1 = nI (rdCol B n (nmsOf ins) (csz (szs ins)) t5).2.2.1.length := by rw [up2_l (by omega)]; exact hcV.1
            refine lv_aload_n hE.1 hE.2.1 dX4_readInputs_88 rfl (lv_at hl 2 rfl) ?_
            refine lv_dup hE.1 hE.2.1 dX4_readInputs_89 rfl ?_
            refine rg_geti hE hH cf_X1 fl_X4_73 rfl (hL.1.1) (hL.1.2) (v := nI (csz (szs ins))) (h1x) dX4_readInputs_90 ?_
            refine lv_aload_n hE.1 hE.2.1 dX4_readInputs_93 rfl (lv_at hl 0 rfl) ?_
            refine rg_geti hE hH cf_X0 fl_X4_83 rfl ((hL.2.2.1 ins.length (by omega)).1.1) ((hL.2.2.1 ins.length (by omega)).1.2) (v := nI ((rdCol B n (nmsOf ins) (csz (szs ins)) t5).2.2.1.length)) (hsx) dX4_readInputs_94 ?_
            refine rn_imul hE dX4_readInputs_97 ?_
            refine rg_puti hE hH cf_X1 fl_X4_73 rfl fn_X1_1 (hL.1.1) (hL.1.2) (v := nI ((csz (szs ins)) * ((rdCol B n (nmsOf ins) (csz (szs ins)) t5).2.2.1.length))) dX4_readInputs_98 (fun H locs hH => ?_)
            have hI2 := LI.add (c := ((rdCol B n (nmsOf ins) (csz (szs ins)) t5).2.1, (rdCol B n (nmsOf ins) (csz (szs ins)) t5).2.2.1)) hI (by omega) hcn hrw.1 hcV rfl rfl
            have hU : Fr iv73 (up2 (up2 iv73 b 0 (nI (ins.length + 1))) b 1 (nI ((csz (szs ins)) * ((rdCol B n (nmsOf ins) (csz (szs ins)) t5).2.2.1.length)))) (fun lb j => lb = b) := Fr.up (Fr.up Fr.rf rfl) rfl
            have hFr := hFr.tr (hU.mono (P' := pB b) (fun lb j h => Or.inr (by omega)))
            have hR := hR.fr (Q := fun _ _ => False) hU FrJ.rf (fun j => by omega) (fun j => by omega) (fun j => by omega) (fun j h => h) (fun h => h)
            have h30 : (up2 (up2 iv73 b 0 (nI (ins.length + 1))) b 1 (nI ((csz (szs ins)) * ((rdCol B n (nmsOf ins) (csz (szs ins)) t5).2.2.1.length)))) (b + 30) 0 = nI 0 := (hU _ _ (by omega)).trans h30
            have hz2 : ∀ i, (ins ++ [((rdCol B n (nmsOf ins) (csz (szs ins)) t5).2.1, (rdCol B n (nmsOf ins) (csz (szs ins)) t5).2.2.1)]).length ≤ i → i < 6 → (up2 (up2 iv73 b 0 (nI (ins.length + 1))) b 1 (nI ((csz (szs ins)) * ((rdCol B n (nmsOf ins) (csz (szs ins)) t5).2.2.1.length)))) (b + 10 + 2 * i) 1 = nI 0 := fun i h1 h2 => by
              rw [List.length_append, List.length_singleton] at h1
              exact (hU _ _ (by omega)).trans ((hF73 _ _ (by simp only [pCo, pZ]; omega)).trans (hz i (by omega) h2))
            refine lv_iinc (v := nI (ins.length + 1)) (lv' := [(2, .int (nI (ins.length + 1))), (3, .ref (G.ad (b + 10 + 2 * ins.length))), (0, .ref (G.ad 102)), (1, .ref (G.ad b))]) hE.1 hE.2.1 dX4_readInputs_101 hl (k := 3) rfl (nI_1 _) (by decide) rfl (fun ls hl => ?_)
            have hl : lv_has ls 4 [(2, .int (nI ((ins ++ [((rdCol B n (nmsOf ins) (csz (szs ins)) t5).2.1, (rdCol B n (nmsOf ins) (csz (szs ins)) t5).2.2.1)]).length))), (3, .ref (G.ad (b + 10 + 2 * ins.length))), (0, .ref (G.ad 102)), (1, .ref (G.ad b))] := by rw [List.length_append]; exact hl
            refine lv_goto (tgt := 2) hE.1 hE.2.1 dX4_readInputs_104 (by decide) ?_
            exact ih2 (up2 (up2 iv73 b 0 (nI (ins.length + 1))) b 1 (nI ((csz (szs ins)) * ((rdCol B n (nmsOf ins) (csz (szs ins)) t5).2.2.1.length))), jv73, ins ++ [((rdCol B n (nmsOf ins) (csz (szs ins)) t5).2.1, (rdCol B n (nmsOf ins) (csz (szs ins)) t5).2.2.1)], (rdCol B n (nmsOf ins) (csz (szs ins)) t5).2.2.2) _ _ _ (show 6 - (ins ++ [_]).length < 6 - ins.length by rw [List.length_append, List.length_singleton]; omega) ⟨hR, hI2, hok2, hz2, hri, hFr, hFj, h30⟩ (lv_sub hl [2, 3, 0] rfl) hH
          · have hc0 := of_decide_eq_false c76
            rw [if_pos hc0] at hri
            have h30 : iv73 (b + 30) 0 = nI 0 := (hF73 _ _ (by simp only [pCo, pZ]; omega)).trans h30
            refine lv_iconst (v := nI 0) hE.1 hE.2.1 dX4_readInputs_79 (by decide) ?_
            exact rg_iret hE hr (nz_0) hlk hH ⟨rfl, zero_bI (by rw [← hri]; exact decide_eq_false hc0), by rw [← hri]; exact hR, fun _ => by rw [← hri]; exact hfd73 hc0, fun h => absurd (by rw [← hri] at h; exact h) hc0, hFr, hFj, h30⟩ dX4_readInputs_80
        · rw [if_pos (by omega)] at hri
          refine lv_aload_n hE.1 hE.2.1 dX4_readInputs_46 rfl (lv_at hl 0 rfl) ?_
          refine lv_iconst (v := nI 2) hE.1 hE.2.1 dX4_readInputs_47 (by decide) ?_
          refine rg_VI (As := [.int (nI 2)]) (rest := []) hE hml hH mc_X4_62 (c_Pa_refuse l z G hX iv2 jv2 2) (hX.1.1) (hX.1.2) (by decide) rfl ⟨Nat.le_of_ble_eq_true rfl, Nat.le_of_ble_eq_true rfl⟩ rfl hl.1 (by simp [Value.category]) dX4_readInputs_48 ⟨Nat.le_of_ble_eq_true rfl, Nat.le_of_ble_eq_true rfl⟩ (fun r48 G48 iv48 jv48 H locs hp48 hH => ?_)
          obtain ⟨rfl, hiv48, rfl, rfl⟩ := hp48
          have hF48 : Fr iv2 iv48 pZ := by rw [hiv48]; exact Fr.up Fr.rf (Or.inl ⟨rfl, rfl⟩)
          have hFr := hFr.tr (hF48.mono (fun _ _ h => Or.inl h))
          have hR : LR iv48 jv2 B n t5 := by rw [hiv48]; exact hR.up (by decide) (by decide) (by decide)
          have hfd : iv48 102 1 = nI 2 := by rw [hiv48]; rfl
          have h30 : iv48 (b + 30) 0 = nI 0 := by rw [hiv48, up2_l (by omega)]; exact h30
          exact rg_iret hE hr (nz_0) hlk hH ⟨rfl, zero_bI (by rw [← hri]; exact decide_eq_false (by simp)), by rw [← hri]; exact hR, fun _ => by rw [← hri]; exact hfd, fun h => absurd (by rw [← hri] at h; exact h) (by simp), hFr, hFj, h30⟩ dX4_readInputs_51
      · rw [if_pos (by cases hq : kwP B t5 20 with | false => rfl | true => exact absurd ((kd_kw (i := 20) hR.tv (by decide)).mpr hq) c32)] at hri
        refine lv_aload_n hE.1 hE.2.1 dX4_readInputs_35 rfl (lv_at hl 0 rfl) ?_
        refine lv_iconst (v := nI 1) hE.1 hE.2.1 dX4_readInputs_36 (by decide) ?_
        refine rg_VI (As := [.int (nI 1)]) (rest := []) hE hml hH mc_X4_62 (c_Pa_refuse l z G hX iv2 jv2 1) (hX.1.1) (hX.1.2) (by decide) rfl ⟨Nat.le_of_ble_eq_true rfl, Nat.le_of_ble_eq_true rfl⟩ rfl hl.1 (by simp [Value.category]) dX4_readInputs_37 ⟨Nat.le_of_ble_eq_true rfl, Nat.le_of_ble_eq_true rfl⟩ (fun r37 G37 iv37 jv37 H locs hp37 hH => ?_)
        obtain ⟨rfl, hiv37, rfl, rfl⟩ := hp37
        have hF37 : Fr iv2 iv37 pZ := by rw [hiv37]; exact Fr.up Fr.rf (Or.inl ⟨rfl, rfl⟩)
        have hFr := hFr.tr (hF37.mono (fun _ _ h => Or.inl h))
        have hR : LR iv37 jv2 B n t5 := by rw [hiv37]; exact hR.up (by decide) (by decide) (by decide)
        have hfd : iv37 102 1 = nI 1 := by rw [hiv37]; rfl
        have h30 : iv37 (b + 30) 0 = nI 0 := by rw [hiv37, up2_l (by omega)]; exact h30
        exact rg_iret hE hr (nz_0) hlk hH ⟨rfl, zero_bI (by rw [← hri]; exact decide_eq_false (by simp)), by rw [← hri]; exact hR, fun _ => by rw [← hri]; exact hfd, fun h => absurd (by rw [← hri] at h; exact h) (by simp), hFr, hFj, h30⟩ dX4_readInputs_40
    · refine lv_aload_n hE.1 hE.2.1 dX4_readInputs_11 rfl (lv_at hl 0 rfl) ?_
      refine rg_getr hE hH cf_X4 fl_X4_12 rfl (hX.1.1) (hX.1.2) (v := 103) (hX.2.2.2.2.2.2.1) dX4_readInputs_12 ?_
      refine rg_geti hE hH cf_X2 fl_X4_59 rfl (hX.2.1.1) (hX.2.1.2) (v := nI (kdT B t5)) (hR.kd) dX4_readInputs_15 ?_
      refine lv_iconst (v := nI 2) hE.1 hE.2.1 dX4_readInputs_18 (by decide) ?_
      refine rn_icmp_ne (tgt := 24) hE dX4_readInputs_19 (by decide) (by have := hR.k16; omega) (by have := hR.k16; omega) (fun c19 => ?_) (fun c19 => ?_)
      · rw [if_neg (fun h => c19 ((kd_kw (i := 19) hR.tv (by decide)).mpr h.2))] at hri
        refine lv_aload_n hE.1 hE.2.1 dX4_readInputs_24 rfl (lv_at hl 0 rfl) ?_
        refine rg_getr hE hH cf_X4 fl_X4_12 rfl (hX.1.1) (hX.1.2) (v := 103) (hX.2.2.2.2.2.2.1) dX4_readInputs_25 ?_
        refine rg_geti hE hH cf_X2 fl_X4_59 rfl (hX.2.1.1) (hX.2.1.2) (v := nI (kdT B t5)) (hR.kd) dX4_readInputs_28 ?_
        refine lv_iconst (v := nI 1) hE.1 hE.2.1 dX4_readInputs_31 (by decide) ?_
        refine rn_icmp_eq (tgt := 41) hE dX4_readInputs_32 (by decide) (by have := hR.k16; omega) (by have := hR.k16; omega) (fun c32 => ?_) (fun c32 => ?_)
        · rw [if_neg (by rw [(kd_kw (i := 20) hR.tv (by decide)).mp c32]; decide)] at hri
          refine lv_iload_n hE.1 hE.2.1 dX4_readInputs_41 rfl (lv_at hl 2 rfl) ?_
          refine lv_iconst (v := nI 5) hE.1 hE.2.1 dX4_readInputs_42 (by decide) ?_
          refine rn_icmp_lt (tgt := 52) hE dX4_readInputs_43 (by decide) (by omega) (by omega) (fun c43 => ?_) (fun c43 => ?_)
          · rw [if_neg (by omega)] at hri
            have htv5 := hR.tv
            refine lv_aload_n hE.1 hE.2.1 dX4_readInputs_52 rfl (lv_at hl 0 rfl) ?_
            refine rg_getr hE hH cf_X4 fl_X4_12 rfl (hX.1.1) (hX.1.2) (v := 103) (hX.2.2.2.2.2.2.1) dX4_readInputs_53 ?_
            refine rg_VV (As := []) (rest := []) hE hml hH mc_X4_66 (c_Lx_next l z G hX iv2 jv2 B n t5 hR (nx_ne hR.tv c32 (by decide))) (hX.2.1.1) (hX.2.1.2) (by decide) rfl ⟨Nat.le_of_ble_eq_true rfl, Nat.le_of_ble_eq_true rfl⟩ rfl hl.1 (by simp [Value.category]) dX4_readInputs_56 ⟨Nat.le_of_ble_eq_true rfl, Nat.le_of_ble_eq_true rfl⟩ (fun G56 iv56 jv56 H locs hp56 hH => ?_)
            obtain ⟨rfl, hR, hF56, hJ56⟩ := hp56
            have hJ56 : FrJ jv2 jv56 qZ := hJ56
            have hF56 : Fr iv2 iv56 pZ := hF56.mono (fun _ _ h => Or.inr h)
            have hFr := hFr.tr (hF56.mono (fun _ _ h => Or.inl h))
            have hFj := hFj.tr (hJ56.mono (fun _ _ h => Or.inl h))
            have htv := (show TV B n t5 from htv5)
            have h30 : iv56 (b + 30) 0 = nI 0 := (hF56 _ _ (by simp only [pZ]; omega)).trans h30
            have hI := hI.frZ hb hF56 hJ56
            have hz : ∀ i, ins.length ≤ i → i < 6 → iv56 (b + 10 + 2 * i) 1 = nI 0 := fun i h1 h2 => (hF56 _ _ (by simp only [pZ]; omega)).trans (hz i h1 h2)
            refine lv_aload_n hE.1 hE.2.1 dX4_readInputs_59 rfl (lv_at hl 1 rfl) ?_
            refine rg_getr hE hH cf_X1 fl_X4_69 rfl (hL.1.1) (hL.1.2) (v := b + 1) (hL.2.2.2.2.1) dX4_readInputs_60 ?_
            refine lv_iload_n hE.1 hE.2.1 dX4_readInputs_63 rfl (lv_at hl 2 rfl) ?_
            refine rg_aldr hE hH (hL.2.1.1) (hL.2.1.2.1) (by decide) (by decide) (by omega) (v := b + 10 + 2 * ins.length) (hL.2.2.2.2.2.1 ins.length (by omega)) dX4_readInputs_64 ?_
            refine lv_astore_n (lv' := [(3, .ref (G.ad (b + 10 + 2 * ins.length))), (0, .ref (G.ad 102)), (1, .ref (G.ad b)), (2, .int (nI ins.length))]) hE.1 hE.2.1 dX4_readInputs_65 rfl hl (by decide) rfl (fun ls hl => ?_)
            refine lv_aload_n hE.1 hE.2.1 dX4_readInputs_66 rfl (lv_at hl 1 rfl) ?_
            refine lv_aload_n hE.1 hE.2.1 dX4_readInputs_67 rfl (lv_at hl 2 rfl) ?_
            refine lv_aload_n hE.1 hE.2.1 dX4_readInputs_68 rfl (lv_at hl 0 rfl) ?_
            refine lv_aload_n hE.1 hE.2.1 dX4_readInputs_69 rfl (lv_at hl 2 rfl) ?_
            refine rg_geti hE hH cf_X1 fl_X4_73 rfl (hL.1.1) (hL.1.2) (v := nI (csz (szs ins))) (hI.2.1) dX4_readInputs_70 ?_
            refine rg_VI (As := [.ref (G.ad b), .ref (G.ad (b + 10 + 2 * ins.length)), .int (nI (csz (szs ins)))]) (rest := []) hE hml hH mc_X4_76 (c_Pa_col l z G hX iv56 jv56 B n t5 htv5 hR b hL hb ins hI (b + 10 + 2 * ins.length) (hL.2.2.1 ins.length (by omega)) (by omega) (CV.nil (hz _ (Nat.le_refl _) (by omega))) (csz (szs ins)) hok.2.2.1) (hX.1.1) (hX.1.2) (by decide) rfl ⟨Nat.le_of_ble_eq_true rfl, Nat.le_of_ble_eq_true rfl⟩ rfl hl.1 (by simp [Value.category]) dX4_readInputs_73 ⟨Nat.le_of_ble_eq_true rfl, Nat.le_of_ble_eq_true rfl⟩ (fun r73 G73 iv73 jv73 H locs hp73 hH => ?_)
            obtain ⟨rfl, rfl, hR, hfd73, hcv73, hF73, hJ73⟩ := hp73
            have hFr := hFr.tr (hF73.mono (fun lb j h => by simp only [pCo, pB] at h ⊢; omega))
            have hFj := hFj.tr (hJ73.mono (fun lb j h => by simp only [qCo, qB] at h ⊢; omega))
            refine rn_ifb_ne (tgt := 81) hE dX4_readInputs_76 (by decide) (fun c76 => ?_) (fun c76 => ?_)
            · have hc0 := of_decide_eq_true c76
              rw [if_neg (by simp [hc0])] at hri
              obtain ⟨hcn, hcV⟩ := hcv73 hc0
              have hrok := rdCol_ok hc0
              have hrw := rdCol_w hc0 htv5
              have hok2 := insOK_add (c := ((rdCol B n (nmsOf ins) (csz (szs ins)) t5).2.1, (rdCol B n (nmsOf ins) (csz (szs ins)) t5).2.2.1)) hok (by omega) hrok.1 hrok.2.1 hrok.2.2 hrw.2.1 hrw.1 hrw.2.2.1
              have hI := hI.frC (c := b + 10 + 2 * ins.length) hb (fun i hi => by omega) (by omega) hF73 hJ73
              have h30 : iv73 (b + 30) 0 = nI 0 := (hF73 _ _ (by simp only [pCo, pZ]; omega)).trans h30
              refine lv_aload_n hE.1 hE.2.1 dX4_readInputs_81 rfl (lv_at hl 2 rfl) ?_
              refine lv_iload_n hE.1 hE.2.1 dX4_readInputs_82 rfl (lv_at hl 3 rfl) ?_
              refine lv_iconst (v := nI 1) hE.1 hE.2.1 dX4_readInputs_83 (by decide) ?_
              refine rn_iadd hE dX4_readInputs_84 ?_
              refine rg_puti hE hH cf_X1 fl_X4_80 rfl fn_X1_0 (hL.1.1) (hL.1.2) (v := nI (ins.length + 1)) dX4_readInputs_85 (fun H locs hH => ?_)
              have h1x : (up2 iv73 b 0 (nI (ins.length + 1))) b 1 = nI (csz (szs ins)) := by rw [up2_k (by decide)]; exact hI.2.1
              have hsx : (up2 iv73 b 0 (nI (ins.length + 1))) (b + 10 + 2 * ins.length) 1 = nI (rdCol B n (nmsOf ins) (csz (szs ins)) t5).2.2.1.length := by rw [up2_l (by omega)]; exact hcV.1
              refine lv_aload_n hE.1 hE.2.1 dX4_readInputs_88 rfl (lv_at hl 2 rfl) ?_
              refine lv_dup hE.1 hE.2.1 dX4_readInputs_89 rfl ?_
              refine rg_geti hE hH cf_X1 fl_X4_73 rfl (hL.1.1) (hL.1.2) (v := nI (csz (szs ins))) (h1x) dX4_readInputs_90 ?_
              refine lv_aload_n hE.1 hE.2.1 dX4_readInputs_93 rfl (lv_at hl 0 rfl) ?_
              refine rg_geti hE hH cf_X0 fl_X4_83 rfl ((hL.2.2.1 ins.length (by omega)).1.1) ((hL.2.2.1 ins.length (by omega)).1.2) (v := nI ((rdCol B n (nmsOf ins) (csz (szs ins)) t5).2.2.1.length)) (hsx) dX4_readInputs_94 ?_
              refine rn_imul hE dX4_readInputs_97 ?_
              refine rg_puti hE hH cf_X1 fl_X4_73 rfl fn_X1_1 (hL.1.1) (hL.1.2) (v := nI ((csz (szs ins)) * ((rdCol B n (nmsOf ins) (csz (szs ins)) t5).2.2.1.length))) dX4_readInputs_98 (fun H locs hH => ?_)
              have hI2 := LI.add (c := ((rdCol B n (nmsOf ins) (csz (szs ins)) t5).2.1, (rdCol B n (nmsOf ins) (csz (szs ins)) t5).2.2.1)) hI (by omega) hcn hrw.1 hcV rfl rfl
              have hU : Fr iv73 (up2 (up2 iv73 b 0 (nI (ins.length + 1))) b 1 (nI ((csz (szs ins)) * ((rdCol B n (nmsOf ins) (csz (szs ins)) t5).2.2.1.length)))) (fun lb j => lb = b) := Fr.up (Fr.up Fr.rf rfl) rfl
              have hFr := hFr.tr (hU.mono (P' := pB b) (fun lb j h => Or.inr (by omega)))
              have hR := hR.fr (Q := fun _ _ => False) hU FrJ.rf (fun j => by omega) (fun j => by omega) (fun j => by omega) (fun j h => h) (fun h => h)
              have h30 : (up2 (up2 iv73 b 0 (nI (ins.length + 1))) b 1 (nI ((csz (szs ins)) * ((rdCol B n (nmsOf ins) (csz (szs ins)) t5).2.2.1.length)))) (b + 30) 0 = nI 0 := (hU _ _ (by omega)).trans h30
              have hz2 : ∀ i, (ins ++ [((rdCol B n (nmsOf ins) (csz (szs ins)) t5).2.1, (rdCol B n (nmsOf ins) (csz (szs ins)) t5).2.2.1)]).length ≤ i → i < 6 → (up2 (up2 iv73 b 0 (nI (ins.length + 1))) b 1 (nI ((csz (szs ins)) * ((rdCol B n (nmsOf ins) (csz (szs ins)) t5).2.2.1.length)))) (b + 10 + 2 * i) 1 = nI 0 := fun i h1 h2 => by
                rw [List.length_append, List.length_singleton] at h1
                exact (hU _ _ (by omega)).trans ((hF73 _ _ (by simp only [pCo, pZ]; omega)).trans (hz i (by omega) h2))
              refine lv_iinc (v := nI (ins.length + 1)) (lv' := [(2, .int (nI (ins.length + 1))), (3, .ref (G.ad (b + 10 + 2 * ins.length))), (0, .ref (G.ad 102)), (1, .ref (G.ad b))]) hE.1 hE.2.1 dX4_readInputs_101 hl (k := 3) rfl (nI_1 _) (by decide) rfl (fun ls hl => ?_)
              have hl : lv_has ls 4 [(2, .int (nI ((ins ++ [((rdCol B n (nmsOf ins) (csz (szs ins)) t5).2.1, (rdCol B n (nmsOf ins) (csz (szs ins)) t5).2.2.1)]).length))), (3, .ref (G.ad (b + 10 + 2 * ins.length))), (0, .ref (G.ad 102)), (1, .ref (G.ad b))] := by rw [List.length_append]; exact hl
              refine lv_goto (tgt := 2) hE.1 hE.2.1 dX4_readInputs_104 (by decide) ?_
              exact ih2 (up2 (up2 iv73 b 0 (nI (ins.length + 1))) b 1 (nI ((csz (szs ins)) * ((rdCol B n (nmsOf ins) (csz (szs ins)) t5).2.2.1.length))), jv73, ins ++ [((rdCol B n (nmsOf ins) (csz (szs ins)) t5).2.1, (rdCol B n (nmsOf ins) (csz (szs ins)) t5).2.2.1)], (rdCol B n (nmsOf ins) (csz (szs ins)) t5).2.2.2) _ _ _ (show 6 - (ins ++ [_]).length < 6 - ins.length by rw [List.length_append, List.length_singleton]; omega) ⟨hR, hI2, hok2, hz2, hri, hFr, hFj, h30⟩ (lv_sub hl [2, 3, 0] rfl) hH
            · have hc0 := of_decide_eq_false c76
              rw [if_pos hc0] at hri
              have h30 : iv73 (b + 30) 0 = nI 0 := (hF73 _ _ (by simp only [pCo, pZ]; omega)).trans h30
              refine lv_iconst (v := nI 0) hE.1 hE.2.1 dX4_readInputs_79 (by decide) ?_
              exact rg_iret hE hr (nz_0) hlk hH ⟨rfl, zero_bI (by rw [← hri]; exact decide_eq_false hc0), by rw [← hri]; exact hR, fun _ => by rw [← hri]; exact hfd73 hc0, fun h => absurd (by rw [← hri] at h; exact h) hc0, hFr, hFj, h30⟩ dX4_readInputs_80
          · rw [if_pos (by omega)] at hri
            refine lv_aload_n hE.1 hE.2.1 dX4_readInputs_46 rfl (lv_at hl 0 rfl) ?_
            refine lv_iconst (v := nI 2) hE.1 hE.2.1 dX4_readInputs_47 (by decide) ?_
            refine rg_VI (As := [.int (nI 2)]) (rest := []) hE hml hH mc_X4_62 (c_Pa_refuse l z G hX iv2 jv2 2) (hX.1.1) (hX.1.2) (by decide) rfl ⟨Nat.le_of_ble_eq_true rfl, Nat.le_of_ble_eq_true rfl⟩ rfl hl.1 (by simp [Value.category]) dX4_readInputs_48 ⟨Nat.le_of_ble_eq_true rfl, Nat.le_of_ble_eq_true rfl⟩ (fun r48 G48 iv48 jv48 H locs hp48 hH => ?_)
            obtain ⟨rfl, hiv48, rfl, rfl⟩ := hp48
            have hF48 : Fr iv2 iv48 pZ := by rw [hiv48]; exact Fr.up Fr.rf (Or.inl ⟨rfl, rfl⟩)
            have hFr := hFr.tr (hF48.mono (fun _ _ h => Or.inl h))
            have hR : LR iv48 jv2 B n t5 := by rw [hiv48]; exact hR.up (by decide) (by decide) (by decide)
            have hfd : iv48 102 1 = nI 2 := by rw [hiv48]; rfl
            have h30 : iv48 (b + 30) 0 = nI 0 := by rw [hiv48, up2_l (by omega)]; exact h30
            exact rg_iret hE hr (nz_0) hlk hH ⟨rfl, zero_bI (by rw [← hri]; exact decide_eq_false (by simp)), by rw [← hri]; exact hR, fun _ => by rw [← hri]; exact hfd, fun h => absurd (by rw [← hri] at h; exact h) (by simp), hFr, hFj, h30⟩ dX4_readInputs_51
        · rw [if_pos (by cases hq : kwP B t5 20 with | false => rfl | true => exact absurd ((kd_kw (i := 20) hR.tv (by decide)).mpr hq) c32)] at hri
          refine lv_aload_n hE.1 hE.2.1 dX4_readInputs_35 rfl (lv_at hl 0 rfl) ?_
          refine lv_iconst (v := nI 1) hE.1 hE.2.1 dX4_readInputs_36 (by decide) ?_
          refine rg_VI (As := [.int (nI 1)]) (rest := []) hE hml hH mc_X4_62 (c_Pa_refuse l z G hX iv2 jv2 1) (hX.1.1) (hX.1.2) (by decide) rfl ⟨Nat.le_of_ble_eq_true rfl, Nat.le_of_ble_eq_true rfl⟩ rfl hl.1 (by simp [Value.category]) dX4_readInputs_37 ⟨Nat.le_of_ble_eq_true rfl, Nat.le_of_ble_eq_true rfl⟩ (fun r37 G37 iv37 jv37 H locs hp37 hH => ?_)
          obtain ⟨rfl, hiv37, rfl, rfl⟩ := hp37
          have hF37 : Fr iv2 iv37 pZ := by rw [hiv37]; exact Fr.up Fr.rf (Or.inl ⟨rfl, rfl⟩)
          have hFr := hFr.tr (hF37.mono (fun _ _ h => Or.inl h))
          have hR : LR iv37 jv2 B n t5 := by rw [hiv37]; exact hR.up (by decide) (by decide) (by decide)
          have hfd : iv37 102 1 = nI 1 := by rw [hiv37]; rfl
          have h30 : iv37 (b + 30) 0 = nI 0 := by rw [hiv37, up2_l (by omega)]; exact h30
          exact rg_iret hE hr (nz_0) hlk hH ⟨rfl, zero_bI (by rw [← hri]; exact decide_eq_false (by simp)), by rw [← hri]; exact hR, fun _ => by rw [← hri]; exact hfd, fun h => absurd (by rw [← hri] at h; exact h) (by simp), hFr, hFj, h30⟩ dX4_readInputs_40
      · have h19 := (kd_kw (i := 19) hR.tv (by decide)).mp c19
        rw [if_pos ⟨by omega, h19⟩] at hri
        refine lv_iconst (v := nI 1) hE.1 hE.2.1 dX4_readInputs_22 (by decide) ?_
        exact rg_iret hE hr (nz_1) hlk hH ⟨rfl, one_bI (by rw [← hri]; rfl), by rw [← hri]; exact hR, fun h => absurd (by rw [← hri]) h, fun _ => by rw [← hri]; exact ⟨hI, hz 5 (by omega) (by decide)⟩, hFr, hFj, h30⟩ dX4_readInputs_23
