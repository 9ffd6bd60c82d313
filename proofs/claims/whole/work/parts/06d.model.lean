set_option maxRecDepth 100000 in
set_option maxHeartbeats 4000000 in
theorem c_Tb_ans (l : Launch) (z : ZK) (G : GW) (iv : IV) (jv : JV) (t b : Nat) (tab : Tab) (hk : tabOK tab) (hTb : isTb G t b (tm tab) (tC tab) (tR tab) (tT tab)) (ht : 3000 ≤ t) (hb : 1000 ≤ b) (hbt : b + 40 ≤ t) (hLy : LAY iv jv b tab) (h1 : iv t 1 = nI (tC tab)) (hCV : CVl iv t tab) (h7 : iv t 7 = nI 0) : cV l z yX7_findAnswers cX7_findAnswers 3 none 3 71 0 0 [.ref (G.ad t)] G iv jv (fun G' iv' jv' => G = G' ∧ jv = jv' ∧ iv' t 7 = nI (nHo tab) ∧ (∀ d, d < tC tab → iv' (t + 10) d = oI (ans tab d) ∧ iv' (t + 11) d = oI (frow tab d) ∧ iv' (t + 12) d = nI (cntN (fun r => fit tab r d) (tR tab))) ∧ (∀ d, d < tC tab → frow tab d = none → iv' (t + 13) (cntN (fun c => (frow tab c).isNone) d) = nI d) ∧ Fr iv iv' (fun lb j => lb = t + 10 ∨ lb = t + 11 ∨ lb = t + 12 ∨ lb = t + 13 ∨ (lb = t ∧ j = 7))) := by
  intro sz
  refine rg_entry rfl (Nat.le_of_ble_eq_true rfl) ?_
  intro pq eq sq mq bq methq cq ls hE hr hlk hml hnm hl hsz hH
  have hl : lv_has ls 3 [(0, .ref (G.ad t))] := hl
  have hTb0 := hTb
  obtain ⟨⟨mt, kt⟩, hL, hCa, hA10, hA11, hA12, hA13, hA14, hA15, hA16, hA17, hTm, r0, r2, r3, r4, r5, r6, r8, r9, r11, r13, r14⟩ := hTb
  have l10 := hA10.2.2
  have l11 := hA11.2.2
  have l12 := hA12.2.2
  have l13 := hA13.2.2
  have l14 := hA14.2.2
  have l15 := hA15.2.2
  have l16 := hA16.2.2
  have l17 := hA17.2.2
  have hm5 := hk.2.1
  have hm1 := hk.1
  have hC4 := hk.2.2.2.1
  have hR40 := hk.2.2.2.2.2.2.1
  have hO6 := hk.2.2.2.2.2.1
  have hR0 := hLy.2.2.1
  have l32 : G.ln (b + 30 + 2) = 40 := hL.2.2.2.1.2.2.1.2.2
  refine lv_iconst (v := nI 0) hE.1 hE.2.1 dX7_findAnswers_0 (by decide) ?_
  refine lv_istore_n (lv' := [(1, .int (nI 0)), (0, .ref (G.ad t))]) hE.1 hE.2.1 dX7_findAnswers_1 rfl hl (by decide) rfl (fun ls hl => ?_)
  refine rg_loop (σ := IV × Nat) (nL := 3) (fun (u : IV × Nat) => match u with | (iv2, c) => tC tab - c) (fun (u : IV × Nat) => match u with | (iv2, c) => [(0, .ref (G.ad t)), (1, .int (nI c))]) (fun (u : IV × Nat) => match u with | (iv2, c) => G) (fun (u : IV × Nat) => match u with | (iv2, c) => iv2) (fun (u : IV × Nat) => match u with | (iv2, c) => jv) (fun (u : IV × Nat) => match u with | (iv2, c) => c ≤ tC tab ∧ iv2 t 7 = nI (cntN (fun c => (frow tab c).isNone) c) ∧ (∀ d, d < c → iv2 (t + 10) d = oI (ans tab d) ∧ iv2 (t + 11) d = oI (frow tab d) ∧ iv2 (t + 12) d = nI (cntN (fun r => fit tab r d) (tR tab))) ∧ (∀ d, d < c → frow tab d = none → iv2 (t + 13) (cntN (fun c => (frow tab c).isNone) d) = nI d) ∧ Fr iv iv2 (fun lb j => lb = t + 10 ∨ lb = t + 11 ∨ lb = t + 12 ∨ lb = t + 13 ∨ (lb = t ∧ j = 7))) ?_ ((iv, 0)) ⟨Nat.zero_le _, h7, fun d hd => absurd hd (Nat.not_lt_zero d), fun d hd => absurd hd (Nat.not_lt_zero d), Fr.rf⟩ (lv_sub hl [1, 0] rfl) hH
  rintro ⟨iv2, c⟩ H locs ls ⟨hcC, h7, hdn, hho, hFr⟩ hl hH ih2
  try dsimp only at hl hH ih2
  try dsimp only at hcC h7 hdn hho hFr
  have hLy := hLy.fr hFr (fun lb j _ _ => by omega)
  have hCV := hCV.fr hFr (fun i hi c => by omega)
  have h1 : iv2 t 1 = nI (tC tab) := (hFr _ _ (by omega)).trans h1
  refine lv_iload_n hE.1 hE.2.1 dX7_findAnswers_2 rfl (lv_at hl 1 rfl) ?_
  refine lv_aload_n hE.1 hE.2.1 dX7_findAnswers_3 rfl (lv_at hl 0 rfl) ?_
  refine rg_geti hE hH cf_X7 fl_X7_21 rfl (mt) (kt) (v := nI (tC tab)) (h1) dX7_findAnswers_4 ?_
  refine rn_icmp_ge (tgt := 105) hE dX7_findAnswers_7 (by decide) (by omega) (by omega) (fun c7 => ?_) (fun c7 => ?_)
  · have hce : c = tC tab := by omega
    subst hce
    exact rg_vret hE hr hlk hH ⟨rfl, rfl, h7, hdn, hho, hFr⟩ dX7_findAnswers_105
  · refine lv_aload_n hE.1 hE.2.1 dX7_findAnswers_10 rfl (lv_at hl 0 rfl) ?_
    refine rg_getr hE hH cf_X7 fl_X7_9 rfl (mt) (kt) (v := b) (r0) dX7_findAnswers_11 ?_
    refine rg_getr hE hH cf_X1 fl_X7_43 rfl (hL.1.1) (hL.1.2) (v := b + 30) (hL.2.2.2.2.2.2.2) dX7_findAnswers_14 ?_
    refine lv_iconst (v := nI 0) hE.1 hE.2.1 dX7_findAnswers_17 (by decide) ?_
    refine lv_aload_n hE.1 hE.2.1 dX7_findAnswers_18 rfl (lv_at hl 0 rfl) ?_
    refine rg_getr hE hH cf_X7 fl_X7_27 rfl (mt) (kt) (v := t + 1) (r2) dX7_findAnswers_19 ?_
    refine lv_iload_n hE.1 hE.2.1 dX7_findAnswers_22 rfl (lv_at hl 1 rfl) ?_
    refine rg_VI (As := [.int (nI 0), .ref (G.ad (t + 1)), .int (nI c)]) (rest := []) hE hml hH mc_X7_104 (c_Ro_first l z G iv2 jv (b + 30) hL.2.2.2.1 0 (tR tab) (by omega) hR40 hLy.2.2.1 t (tm tab) (tC tab) c hCa hm5 (by omega) (vOf (tf tab) (tm tab) c) (fun i hi => ⟨hCV i hi c (by omega), vOf_lt hk hi⟩) (fun k i => (tce tab k i).testBit (vOf (tf tab) (tm tab) c i)) (fun k hkr => hLy.msk hk hkr)) (hL.2.2.2.1.1.1) (hL.2.2.2.1.1.2) (by decide) rfl ⟨Nat.le_of_ble_eq_true rfl, Nat.le_of_ble_eq_true rfl⟩ rfl hl.1 (by simp [Value.category]) dX7_findAnswers_23 ⟨Nat.le_of_ble_eq_true rfl, Nat.le_of_ble_eq_true rfl⟩ (fun r23 G23 iv23 jv23 H locs hp23 hH => ?_)
    obtain ⟨rfl, rfl, rfl, rfl⟩ := hp23
    refine rn_as (v' := oI (frow tab c)) (by rw [fnF_0]; unfold frow; congr 2; funext k; rw [fit_all]) ?_
    refine lv_istore_n (lv' := [(2, .int (oI (frow tab c))), (0, .ref (G.ad t)), (1, .int (nI c))]) hE.1 hE.2.1 dX7_findAnswers_26 rfl hl (by decide) rfl (fun ls hl => ?_)
    refine lv_aload_n hE.1 hE.2.1 dX7_findAnswers_27 rfl (lv_at hl 1 rfl) ?_
    refine rg_getr hE hH cf_X7 fl_X7_34 rfl (mt) (kt) (v := t + 11) (r4) dX7_findAnswers_28 ?_
    refine lv_iload_n hE.1 hE.2.1 dX7_findAnswers_31 rfl (lv_at hl 2 rfl) ?_
    refine lv_iload_n hE.1 hE.2.1 dX7_findAnswers_32 rfl (lv_at hl 0 rfl) ?_
    refine rg_iast hE hH (hA11.1) (hA11.2.1) (by omega) (v := oI (frow tab c)) dX7_findAnswers_33 (fun H locs hH => ?_)
    have hU1 : Fr iv2 (up2 iv2 (t + 11) c (oI (frow tab c))) (fun lb j => lb = t + 11 ∧ j = c) := Fr.up Fr.rf ⟨rfl, rfl⟩
    refine lv_aload_n hE.1 hE.2.1 dX7_findAnswers_34 rfl (lv_at hl 1 rfl) ?_
    refine rg_getr hE hH cf_X7 fl_X7_37 rfl (mt) (kt) (v := t + 12) (r5) dX7_findAnswers_35 ?_
    refine lv_iload_n hE.1 hE.2.1 dX7_findAnswers_38 rfl (lv_at hl 2 rfl) ?_
    refine lv_aload_n hE.1 hE.2.1 dX7_findAnswers_39 rfl (lv_at hl 1 rfl) ?_
    refine lv_iload_n hE.1 hE.2.1 dX7_findAnswers_40 rfl (lv_at hl 0 rfl) ?_
    refine lv_iload_n hE.1 hE.2.1 dX7_findAnswers_41 rfl (lv_at hl 2 rfl) ?_
    refine rg_VI (As := [.int (oI (frow tab c)), .int (nI c)]) (rest := [.int (nI c), .ref (G.ad (t + 12))]) hE hml hH mc_X7_108 (c_Tb_many l z G (up2 iv2 (t + 11) c (oI (frow tab c))) jv t b tab hk hTb0 ht hb hbt (hLy.fr hU1 (fun lb j _ _ => by omega)) ((hU1 _ _ (by omega)).trans h1) (hCV.fr hU1 (fun i hi c => by omega)) c (by omega)) (mt) (kt) (by decide) rfl ⟨Nat.le_of_ble_eq_true rfl, Nat.le_of_ble_eq_true rfl⟩ rfl hl.1 (by simp [Value.category]) dX7_findAnswers_42 ⟨Nat.le_of_ble_eq_true rfl, Nat.le_of_ble_eq_true rfl⟩ (fun r42 G42 iv42 jv42 H locs hp42 hH => ?_)
    obtain ⟨rfl, rfl, rfl, rfl⟩ := hp42
    refine rg_iast hE hH (hA12.1) (hA12.2.1) (by omega) (v := nI (cntN (fun r => fit tab r c) (tR tab))) dX7_findAnswers_45 (fun H locs hH => ?_)
    have hU2 : Fr iv2 (up2 (up2 iv2 (t + 11) c (oI (frow tab c))) (t + 12) c (nI (cntN (fun r => fit tab r c) (tR tab)))) (fun lb j => (lb = t + 11 ∧ j = c) ∨ (lb = t + 12 ∧ j = c)) := Fr.up (Fr.up Fr.rf (Or.inl ⟨rfl, rfl⟩)) (Or.inr ⟨rfl, rfl⟩)
    have e11 : (up2 (up2 iv2 (t + 11) c (oI (frow tab c))) (t + 12) c (nI (cntN (fun r => fit tab r c) (tR tab)))) (t + 11) c = oI (frow tab c) := by rw [up2_l (by omega)]; exact up2_s
    have e12 : (up2 (up2 iv2 (t + 11) c (oI (frow tab c))) (t + 12) c (nI (cntN (fun r => fit tab r c) (tR tab)))) (t + 12) c = nI (cntN (fun r => fit tab r c) (tR tab)) := up2_s
    generalize up2 (up2 iv2 (t + 11) c (oI (frow tab c))) (t + 12) c (nI (cntN (fun r => fit tab r c) (tR tab))) = iv3 at hH hU2 e11 e12
    have h7c : iv3 t 7 = nI (cntN (fun c => (frow tab c).isNone) c) := (hU2 _ _ (by omega)).trans h7
    have hho3 := cntN_le (p := (fun c => (frow tab c).isNone)) c
    refine lv_iload_n hE.1 hE.2.1 dX7_findAnswers_46 rfl (lv_at hl 0 rfl) ?_
    refine lv_iconst (v := -1) hE.1 hE.2.1 dX7_findAnswers_47 (by decide) ?_
    refine lv_icmp_ne (tgt := 81) hE.1 hE.2.1 dX7_findAnswers_48 (by decide) (fun c48 => ?_) (fun c48 => ?_)
    · obtain ⟨a, ha⟩ := oI_som c48
      have hal := frow_lt ha
      have htv := (hk.2.2.2.2.2.2.2 a hal).2
      have hl : lv_has ls 3 [(2, .int (nI a)), (0, .ref (G.ad t)), (1, .int (nI c))] := by rw [ha] at hl; exact hl
      refine lv_aload_n hE.1 hE.2.1 dX7_findAnswers_81 rfl (lv_at hl 1 rfl) ?_
      refine rg_getr hE hH cf_X7 fl_X7_30 rfl (mt) (kt) (v := t + 10) (r3) dX7_findAnswers_82 ?_
      refine lv_iload_n hE.1 hE.2.1 dX7_findAnswers_85 rfl (lv_at hl 2 rfl) ?_
      refine lv_aload_n hE.1 hE.2.1 dX7_findAnswers_86 rfl (lv_at hl 1 rfl) ?_
      refine rg_getr hE hH cf_X7 fl_X7_9 rfl (mt) (kt) (v := b) (r0) dX7_findAnswers_87 ?_
      refine rg_getr hE hH cf_X1 fl_X7_43 rfl (hL.1.1) (hL.1.2) (v := b + 30) (hL.2.2.2.2.2.2.2) dX7_findAnswers_90 ?_
      refine rg_getr hE hH cf_X6 fl_X7_115 rfl (hL.2.2.2.1.1.1) (hL.2.2.2.1.1.2) (v := b + 30 + 2) (hL.2.2.2.1.2.2.2.2) dX7_findAnswers_93 ?_
      refine lv_iload_n hE.1 hE.2.1 dX7_findAnswers_96 rfl (lv_at hl 0 rfl) ?_
      refine rg_iald hE hH (hL.2.2.2.1.2.2.1.1) (hL.2.2.2.1.2.2.1.2.1) (by omega) (v := nI (tvv tab a)) ((hU2 _ _ (by omega)).trans (hLy.2.2.2.2 a hal).2) dX7_findAnswers_97 ?_
      refine rg_iast hE hH (hA10.1) (hA10.2.1) (by omega) (v := nI (tvv tab a)) dX7_findAnswers_98 (fun H locs hH => ?_)
      have h7b : (up2 iv3 (t + 10) c (nI (tvv tab a))) t 7 = nI (cntN (fun c => (frow tab c).isNone) (c + 1)) := by rw [cntN, if_neg (by rw [ha]; simp), up2_l (by omega)]; exact h7c
      have hV3 : Fr iv3 (up2 iv3 (t + 10) c (nI (tvv tab a))) (fun lb j => (lb = t + 10 ∧ j = c) ∨ (lb = t + 13 ∧ j = cntN (fun c => (frow tab c).isNone) c) ∨ (lb = t ∧ j = 7)) := Fr.up Fr.rf (Or.inl ⟨rfl, rfl⟩)
      have hFr2 : Fr iv (up2 iv3 (t + 10) c (nI (tvv tab a))) (fun lb j => lb = t + 10 ∨ lb = t + 11 ∨ lb = t + 12 ∨ lb = t + 13 ∨ (lb = t ∧ j = 7)) := (hFr.tr (hU2.mono (fun lb j h => by omega))).tr (hV3.mono (fun lb j h => by omega))
      have hdn2 : ∀ d, d < c + 1 → (up2 iv3 (t + 10) c (nI (tvv tab a))) (t + 10) d = oI (ans tab d) ∧ (up2 iv3 (t + 10) c (nI (tvv tab a))) (t + 11) d = oI (frow tab d) ∧ (up2 iv3 (t + 10) c (nI (tvv tab a))) (t + 12) d = nI (cntN (fun r => fit tab r d) (tR tab)) := fun d hd => by
        by_cases hdc : d = c
        · subst hdc
          exact ⟨(by rw [up2_s, ans, ha]; rfl), (hV3 _ _ (by omega)).trans e11, (hV3 _ _ (by omega)).trans e12⟩
        · have hh := hdn d (by omega)
          exact ⟨(hV3 _ _ (by omega)).trans ((hU2 _ _ (by omega)).trans hh.1), (hV3 _ _ (by omega)).trans ((hU2 _ _ (by omega)).trans hh.2.1), (hV3 _ _ (by omega)).trans ((hU2 _ _ (by omega)).trans hh.2.2)⟩
      have hho2 : ∀ d, d < c + 1 → frow tab d = none → (up2 iv3 (t + 10) c (nI (tvv tab a))) (t + 13) (cntN (fun c => (frow tab c).isNone) d) = nI d := fun d hd hdf => by
        by_cases hdc : d = c
        · subst hdc; rw [ha] at hdf; cases hdf
        · have hlt := cnt_hole (c := c) (by omega) hdf
          exact (hV3 _ _ (by omega)).trans ((hU2 _ _ (by omega)).trans (hho d (by omega) hdf))
      refine lv_iinc (v := nI (c + 1)) (lv' := [(1, .int (nI (c + 1))), (2, .int (nI a)), (0, .ref (G.ad t))]) hE.1 hE.2.1 dX7_findAnswers_99 hl (k := 2) rfl (nI_1 _) (by decide) rfl (fun ls hl => ?_)
      refine lv_goto (tgt := 2) hE.1 hE.2.1 dX7_findAnswers_102 (by decide) ?_
      exact ih2 (up2 iv3 (t + 10) c (nI (tvv tab a)), c + 1) _ _ _ (show tC tab - (c + 1) < tC tab - c by omega) ⟨by show c + 1 ≤ tC tab; omega, h7b, hdn2, hho2, hFr2⟩ (lv_sub hl [2, 0] rfl) hH
    · rw [oI_m1 (fun k hk2 => by have := frow_lt hk2; omega)] at c48
      refine lv_aload_n hE.1 hE.2.1 dX7_findAnswers_51 rfl (lv_at hl 1 rfl) ?_
      refine rg_getr hE hH cf_X7 fl_X7_30 rfl (mt) (kt) (v := t + 10) (r3) dX7_findAnswers_52 ?_
      refine lv_iload_n hE.1 hE.2.1 dX7_findAnswers_55 rfl (lv_at hl 2 rfl) ?_
      refine lv_iconst (v := -1) hE.1 hE.2.1 dX7_findAnswers_56 (by decide) ?_
      refine rg_iast hE hH (hA10.1) (hA10.2.1) (by omega) (v := -1) dX7_findAnswers_57 (fun H locs hH => ?_)
      refine lv_aload_n hE.1 hE.2.1 dX7_findAnswers_58 rfl (lv_at hl 1 rfl) ?_
      refine rg_getr hE hH cf_X7 fl_X7_40 rfl (mt) (kt) (v := t + 13) (r6) dX7_findAnswers_59 ?_
      refine lv_aload_n hE.1 hE.2.1 dX7_findAnswers_62 rfl (lv_at hl 1 rfl) ?_
      refine rg_geti hE hH cf_X7 fl_X7_112 rfl (mt) (kt) (v := nI (cntN (fun c => (frow tab c).isNone) c)) ((by rw [up2_l (by omega)]; exact h7c)) dX7_findAnswers_63 ?_
      refine lv_iload_n hE.1 hE.2.1 dX7_findAnswers_66 rfl (lv_at hl 2 rfl) ?_
      refine rg_iast hE hH (hA13.1) (hA13.2.1) (by omega) (v := nI c) dX7_findAnswers_67 (fun H locs hH => ?_)
      refine lv_aload_n hE.1 hE.2.1 dX7_findAnswers_68 rfl (lv_at hl 1 rfl) ?_
      refine lv_dup hE.1 hE.2.1 dX7_findAnswers_69 rfl ?_
      refine rg_geti hE hH cf_X7 fl_X7_112 rfl (mt) (kt) (v := nI (cntN (fun c => (frow tab c).isNone) c)) ((by rw [up2_l (by omega), up2_l (by omega)]; exact h7c)) dX7_findAnswers_70 ?_
      refine lv_iconst (v := nI 1) hE.1 hE.2.1 dX7_findAnswers_73 (by decide) ?_
      refine rn_iadd hE dX7_findAnswers_74 ?_
      refine rg_puti hE hH cf_X7 fl_X7_112 rfl fn_X7_7 (mt) (kt) (v := nI (cntN (fun c => (frow tab c).isNone) c + 1)) dX7_findAnswers_75 (fun H locs hH => ?_)
      have h7b : (up2 (up2 (up2 iv3 (t + 10) c (-1)) (t + 13) (cntN (fun c => (frow tab c).isNone) c) (nI c)) t 7 (nI (cntN (fun c => (frow tab c).isNone) c + 1))) t 7 = nI (cntN (fun c => (frow tab c).isNone) (c + 1)) := by rw [cntN, if_pos (by rw [c48]; rfl)]; exact up2_s
      have hV3 : Fr iv3 (up2 (up2 (up2 iv3 (t + 10) c (-1)) (t + 13) (cntN (fun c => (frow tab c).isNone) c) (nI c)) t 7 (nI (cntN (fun c => (frow tab c).isNone) c + 1))) (fun lb j => (lb = t + 10 ∧ j = c) ∨ (lb = t + 13 ∧ j = cntN (fun c => (frow tab c).isNone) c) ∨ (lb = t ∧ j = 7)) := Fr.up (Fr.up (Fr.up Fr.rf (Or.inl ⟨rfl, rfl⟩)) (Or.inr (Or.inl ⟨rfl, rfl⟩))) (Or.inr (Or.inr ⟨rfl, rfl⟩))
      have hFr2 : Fr iv (up2 (up2 (up2 iv3 (t + 10) c (-1)) (t + 13) (cntN (fun c => (frow tab c).isNone) c) (nI c)) t 7 (nI (cntN (fun c => (frow tab c).isNone) c + 1))) (fun lb j => lb = t + 10 ∨ lb = t + 11 ∨ lb = t + 12 ∨ lb = t + 13 ∨ (lb = t ∧ j = 7)) := (hFr.tr (hU2.mono (fun lb j h => by omega))).tr (hV3.mono (fun lb j h => by omega))
      have hdn2 : ∀ d, d < c + 1 → (up2 (up2 (up2 iv3 (t + 10) c (-1)) (t + 13) (cntN (fun c => (frow tab c).isNone) c) (nI c)) t 7 (nI (cntN (fun c => (frow tab c).isNone) c + 1))) (t + 10) d = oI (ans tab d) ∧ (up2 (up2 (up2 iv3 (t + 10) c (-1)) (t + 13) (cntN (fun c => (frow tab c).isNone) c) (nI c)) t 7 (nI (cntN (fun c => (frow tab c).isNone) c + 1))) (t + 11) d = oI (frow tab d) ∧ (up2 (up2 (up2 iv3 (t + 10) c (-1)) (t + 13) (cntN (fun c => (frow tab c).isNone) c) (nI c)) t 7 (nI (cntN (fun c => (frow tab c).isNone) c + 1))) (t + 12) d = nI (cntN (fun r => fit tab r d) (tR tab)) := fun d hd => by
        by_cases hdc : d = c
        · subst hdc
          exact ⟨(by rw [up2_l (by omega), up2_l (by omega), up2_s, ans, c48]; rfl), (hV3 _ _ (by omega)).trans e11, (hV3 _ _ (by omega)).trans e12⟩
        · have hh := hdn d (by omega)
          exact ⟨(hV3 _ _ (by omega)).trans ((hU2 _ _ (by omega)).trans hh.1), (hV3 _ _ (by omega)).trans ((hU2 _ _ (by omega)).trans hh.2.1), (hV3 _ _ (by omega)).trans ((hU2 _ _ (by omega)).trans hh.2.2)⟩
      have hho2 : ∀ d, d < c + 1 → frow tab d = none → (up2 (up2 (up2 iv3 (t + 10) c (-1)) (t + 13) (cntN (fun c => (frow tab c).isNone) c) (nI c)) t 7 (nI (cntN (fun c => (frow tab c).isNone) c + 1))) (t + 13) (cntN (fun c => (frow tab c).isNone) d) = nI d := fun d hd hdf => by
        by_cases hdc : d = c
        · subst hdc; rw [up2_l (by omega)]; exact up2_s
        · have hlt := cnt_hole (c := c) (by omega) hdf
          exact (hV3 _ _ (by omega)).trans ((hU2 _ _ (by omega)).trans (hho d (by omega) hdf))
      refine lv_goto (tgt := 99) hE.1 hE.2.1 dX7_findAnswers_78 (by decide) ?_
      refine lv_iinc (v := nI (c + 1)) (lv' := [(1, .int (nI (c + 1))), (2, .int (oI (frow tab c))), (0, .ref (G.ad t))]) hE.1 hE.2.1 dX7_findAnswers_99 hl (k := 2) rfl (nI_1 _) (by decide) rfl (fun ls hl => ?_)
      refine lv_goto (tgt := 2) hE.1 hE.2.1 dX7_findAnswers_102 (by decide) ?_
      exact ih2 (up2 (up2 (up2 iv3 (t + 10) c (-1)) (t + 13) (cntN (fun c => (frow tab c).isNone) c) (nI c)) t 7 (nI (cntN (fun c => (frow tab c).isNone) c + 1)), c + 1) _ _ _ (show tC tab - (c + 1) < tC tab - c by omega) ⟨by show c + 1 ≤ tC tab; omega, h7b, hdn2, hho2, hFr2⟩ (lv_sub hl [2, 0] rfl) hH
