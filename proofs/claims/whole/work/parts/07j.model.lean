set_option maxRecDepth 100000 in
set_option maxHeartbeats 4000000 in
theorem c_Tb_all (l : Launch) (z : ZK) (G : GW) (iv : IV) (jv : JV) (t b : Nat) (tab : Tab) (hk : tabOK tab) (hTb : isTb G t b (tm tab) (tC tab) (tR tab) (tT tab)) (ht : 3000 ≤ t) (hb : 1000 ≤ b) (hbt : b + 40 ≤ t) (hLy : LAY iv jv b tab) (h1 : iv t 1 = nI (tC tab)) (z7 : iv t 7 = nI 0) (z10 : iv t 10 = nI 0) (z12 : iv t 12 = nI 0) (z16 : iv t 16 = nI 0) (hTs : ∀ i, i < tm tab → iv (t + 20 + 1) i = nI (tf tab i) ∧ iv (t + 20 + 2) i = nI (st (g1 tab) (tm tab) i)) (hT2 : iv (t + 20) 2 = nI (tT tab)) (hz10 : ∀ j, iv (t + 20 + 10) j = 0) (hfr : ∀ x, t + 40 ≤ x → x < t + 44 → x ∉ G.L) (hkd : ∀ i, i < 44 → G.kd (t + i) = kTb i) : cV l z yX7_findAll cX7_findAll 1 none 5 117 4 20 [.ref (G.ad t)] G iv jv (fun G' iv' jv' => EX G G' (t + 40) (t + 44) ∧ TBd iv' t tab ∧ Fr iv iv' (fun lb _ => t ≤ lb ∧ lb < t + 44) ∧ FrJ jv jv' (fun lb _ => t ≤ lb ∧ lb < t + 44)) := by
  intro sz
  refine rg_entry rfl (Nat.le_of_ble_eq_true rfl) ?_
  intro pq eq sq mq bq methq cq ls hE hr hlk hml hnm hl hsz hH
  have hl : lv_has ls 1 [(0, .ref (G.ad t))] := hl
  have hTb0 := hTb
  obtain ⟨⟨mt, kt⟩, hL, hCa, hA10, hA11, hA12, hA13, hA14, hA15, hA16, hA17, hTm, r0, r2, r3, r4, r5, r6, r8, r9, r11, r13, r14⟩ := hTb
  have wt := And.intro mt kt
  have hm5 := hk.2.1
  have hm1 := hk.1
  have hC4 := hk.2.2.2.1
  have hR40 := hk.2.2.2.2.2.2.1
  have hT8 := tT_le hk
  have f40 := hfr (t + 40) (by omega) (by omega)
  have f41 := hfr (t + 41) (by omega) (by omega)
  have f42 := hfr (t + 42) (by omega) (by omega)
  have f43 := hfr (t + 43) (by omega) (by omega)
  have k40 := hkd 40 (by omega)
  have k41 := hkd 41 (by omega)
  have k42 := hkd 42 (by omega)
  have k43 := hkd 43 (by omega)
  have hEX : EX G G (t + 40) (t + 44) := EX.rf
  have hFr : Fr iv iv (fun lb _ => t ≤ lb ∧ lb < t + 44) := Fr.rf
  have hFj : FrJ jv jv (fun lb _ => t ≤ lb ∧ lb < t + 44) := FrJ.rf
  refine lv_aload_n hE.1 hE.2.1 dX7_findAll_0 rfl (lv_at hl 0 rfl) ?_
  refine rg_VV (As := []) (rest := []) hE hml hH mc_X7_74 (c_Tb_fill l z G iv jv t b tab hk hTb0 ht hb hbt hLy h1 f40 f41 k40 k41) (wt.1) (wt.2) (by decide) rfl ⟨Nat.le_of_ble_eq_true rfl, Nat.le_of_ble_eq_true rfl⟩ rfl hl.1 (by simp [Value.category]) dX7_findAll_1 ⟨by show 0 + 2 ≤ 4; omega, by show 0 + 10 ≤ 20; omega⟩ (fun G1 iv1 jv1 H locs hp1 hH => ?_)
  obtain ⟨hS1_1, hCV, hU1_1, hJ1_1⟩ := hp1
  have hl : lv_has ls 1 [(0, .ref (G1.ad t))] := by rw [hS1_1.adm (wt.1)]; exact hl
  have hTb0 := hTb0.e hS1_1 hm5 (by omega) (by omega)
  have wt := And.intro (hS1_1.mem wt.1) (hS1_1.kd wt.2)
  have f42 := hS1_1.nin f42 (by omega)
  have f43 := hS1_1.nin f43 (by omega)
  have k42 : G1.kd (t + 42) = 13 := by rw [EX_kd hS1_1]; exact k42
  have k43 : G1.kd (t + 43) = 13 := by rw [EX_kd hS1_1]; exact k43
  have hEX := hEX.tr (hS1_1.mono (c := t + 40) (d := t + 44) (by omega) (by omega))
  have hLy := hLy.fr2 hU1_1 hJ1_1 (fun lb j _ _ => by omega) (fun lb j _ _ => by omega)
  have h1 := (hU1_1 _ _ (by omega)).trans h1
  have z7 := (hU1_1 _ _ (by omega)).trans z7
  have z10 := (hU1_1 _ _ (by omega)).trans z10
  have z12 := (hU1_1 _ _ (by omega)).trans z12
  have z16 := (hU1_1 _ _ (by omega)).trans z16
  have hTs := (fun (i : Nat) (hi : i < tm tab) => And.intro ((hU1_1 _ _ (by omega)).trans (hTs i hi).1) ((hU1_1 _ _ (by omega)).trans (hTs i hi).2))
  have hT2 := (hU1_1 _ _ (by omega)).trans hT2
  have hz10 := (fun (j : Nat) => (hU1_1 _ _ (by omega)).trans (hz10 j))
  have hFr := hFr.tr (hU1_1.mono (P' := fun lb _ => t ≤ lb ∧ lb < t + 44) (fun lb j h => by omega))
  have hFj := hFj.tr (hJ1_1.mono (P' := fun lb _ => t ≤ lb ∧ lb < t + 44) (fun lb j h => by omega))
  have hTb1 := hTb0
  obtain ⟨⟨mt, kt⟩, hL, hCa, hA10, hA11, hA12, hA13, hA14, hA15, hA16, hA17, hTm, r0, r2, r3, r4, r5, r6, r8, r9, r11, r13, r14⟩ := hTb1
  refine lv_aload_n hE.1 hE.2.1 dX7_findAll_4 rfl (lv_at hl 0 rfl) ?_
  refine rg_VV (As := []) (rest := []) hE hml hH mc_X7_77 (c_Tb_ans l z G1 iv1 jv1 t b tab hk hTb0 ht hb hbt hLy h1 hCV z7) (wt.1) (wt.2) (by decide) rfl ⟨Nat.le_of_ble_eq_true rfl, Nat.le_of_ble_eq_true rfl⟩ rfl hl.1 (by simp [Value.category]) dX7_findAll_5 ⟨by show 0 + 2 + 0 ≤ 4; omega, by show 0 + 10 + 0 ≤ 20; omega⟩ (fun G5 iv5 jv5 H locs hp5 hH => ?_)
  obtain ⟨rfl, rfl, h7, hdn, hho, hU5_2⟩ := hp5
  have hJ5_2 : FrJ jv1 jv1 (fun lb _ => lb = t) := FrJ.rf
  have hLy := hLy.fr2 hU5_2 hJ5_2 (fun lb j _ _ => by omega) (fun lb j _ _ => by omega)
  have h1 := (hU5_2 _ _ (by omega)).trans h1
  have z10 := (hU5_2 _ _ (by omega)).trans z10
  have z12 := (hU5_2 _ _ (by omega)).trans z12
  have z16 := (hU5_2 _ _ (by omega)).trans z16
  have hTs := (fun (i : Nat) (hi : i < tm tab) => And.intro ((hU5_2 _ _ (by omega)).trans (hTs i hi).1) ((hU5_2 _ _ (by omega)).trans (hTs i hi).2))
  have hT2 := (hU5_2 _ _ (by omega)).trans hT2
  have hz10 := (fun (j : Nat) => (hU5_2 _ _ (by omega)).trans (hz10 j))
  have hCV := hCV.fr hU5_2 (fun i hi c => by omega)
  have hFr := hFr.tr (hU5_2.mono (P' := fun lb _ => t ≤ lb ∧ lb < t + 44) (fun lb j h => by omega))
  have hFj := hFj.tr (hJ5_2.mono (P' := fun lb _ => t ≤ lb ∧ lb < t + 44) (fun lb j h => by omega))
  refine lv_aload_n hE.1 hE.2.1 dX7_findAll_8 rfl (lv_at hl 0 rfl) ?_
  refine rg_VV (As := []) (rest := []) hE hml hH mc_X7_80 (c_Tb_quar l z G1 iv5 jv1 t b tab hk hTb0 ht hb hbt hLy z10) (wt.1) (wt.2) (by decide) rfl ⟨Nat.le_of_ble_eq_true rfl, Nat.le_of_ble_eq_true rfl⟩ rfl hl.1 (by simp [Value.category]) dX7_findAll_9 ⟨by show 0 + 2 + 0 + 0 ≤ 4; omega, by show 0 + 10 + 0 + 0 ≤ 20; omega⟩ (fun G9 iv9 jv9 H locs hp9 hH => ?_)
  obtain ⟨rfl, rfl, hQL, hU9_3⟩ := hp9
  have hJ9_3 : FrJ jv1 jv1 (fun lb _ => lb = t) := FrJ.rf
  have hLy := hLy.fr2 hU9_3 hJ9_3 (fun lb j _ _ => by omega) (fun lb j _ _ => by omega)
  have h1 := (hU9_3 _ _ (by omega)).trans h1
  have z12 := (hU9_3 _ _ (by omega)).trans z12
  have z16 := (hU9_3 _ _ (by omega)).trans z16
  have hTs := (fun (i : Nat) (hi : i < tm tab) => And.intro ((hU9_3 _ _ (by omega)).trans (hTs i hi).1) ((hU9_3 _ _ (by omega)).trans (hTs i hi).2))
  have hT2 := (hU9_3 _ _ (by omega)).trans hT2
  have hz10 := (fun (j : Nat) => (hU9_3 _ _ (by omega)).trans (hz10 j))
  have hCV := hCV.fr hU9_3 (fun i hi c => by omega)
  have h7 := (hU9_3 _ _ (by omega)).trans h7
  have hdn := (fun (d : Nat) (hd : d < tC tab) => And.intro ((hU9_3 _ _ (by omega)).trans (hdn d hd).1) (And.intro ((hU9_3 _ _ (by omega)).trans (hdn d hd).2.1) ((hU9_3 _ _ (by omega)).trans (hdn d hd).2.2)))
  have hho := (fun (d : Nat) (hd : d < tC tab) (hn : frow tab d = none) => (hU9_3 _ _ (by omega)).trans (hho d hd hn))
  have hFr := hFr.tr (hU9_3.mono (P' := fun lb _ => t ≤ lb ∧ lb < t + 44) (fun lb j h => by omega))
  have hFj := hFj.tr (hJ9_3.mono (P' := fun lb _ => t ≤ lb ∧ lb < t + 44) (fun lb j h => by omega))
  refine lv_aload_n hE.1 hE.2.1 dX7_findAll_12 rfl (lv_at hl 0 rfl) ?_
  refine rg_VV (As := []) (rest := []) hE hml hH mc_X7_83 (c_Tb_idle l z G1 iv9 jv1 t b tab hk hTb0 ht hb hbt hLy h1 hCV z12 (fun d hd => ⟨(hdn d hd).1, (hdn d hd).2.1⟩)) (wt.1) (wt.2) (by decide) rfl ⟨Nat.le_of_ble_eq_true rfl, Nat.le_of_ble_eq_true rfl⟩ rfl hl.1 (by simp [Value.category]) dX7_findAll_13 ⟨by show 0 + 2 + 0 + 0 + 0 ≤ 4; omega, by show 0 + 10 + 0 + 0 + 0 ≤ 20; omega⟩ (fun G13 iv13 jv13 H locs hp13 hH => ?_)
  obtain ⟨rfl, rfl, hid, h12, hU13_4⟩ := hp13
  have hJ13_4 : FrJ jv1 jv1 (fun lb _ => lb = t) := FrJ.rf
  have hLy := hLy.fr2 hU13_4 hJ13_4 (fun lb j _ _ => by omega) (fun lb j _ _ => by omega)
  have h1 := (hU13_4 _ _ (by omega)).trans h1
  have z16 := (hU13_4 _ _ (by omega)).trans z16
  have hTs := (fun (i : Nat) (hi : i < tm tab) => And.intro ((hU13_4 _ _ (by omega)).trans (hTs i hi).1) ((hU13_4 _ _ (by omega)).trans (hTs i hi).2))
  have hT2 := (hU13_4 _ _ (by omega)).trans hT2
  have hz10 := (fun (j : Nat) => (hU13_4 _ _ (by omega)).trans (hz10 j))
  have hCV := hCV.fr hU13_4 (fun i hi c => by omega)
  have h7 := (hU13_4 _ _ (by omega)).trans h7
  have hdn := (fun (d : Nat) (hd : d < tC tab) => And.intro ((hU13_4 _ _ (by omega)).trans (hdn d hd).1) (And.intro ((hU13_4 _ _ (by omega)).trans (hdn d hd).2.1) ((hU13_4 _ _ (by omega)).trans (hdn d hd).2.2)))
  have hho := (fun (d : Nat) (hd : d < tC tab) (hn : frow tab d = none) => (hU13_4 _ _ (by omega)).trans (hho d hd hn))
  have hQL := hQL.fr hU13_4 (by omega) (fun k => by omega) (fun k => by omega)
  have hFr := hFr.tr (hU13_4.mono (P' := fun lb _ => t ≤ lb ∧ lb < t + 44) (fun lb j h => by omega))
  have hFj := hFj.tr (hJ13_4.mono (P' := fun lb _ => t ≤ lb ∧ lb < t + 44) (fun lb j h => by omega))
  refine lv_aload_n hE.1 hE.2.1 dX7_findAll_16 rfl (lv_at hl 0 rfl) ?_
  refine rg_getr hE hH cf_X7 fl_X7_67 rfl (wt.1) (wt.2) (v := t + 20) (r13) dX7_findAll_17 ?_
  refine rg_VV (As := []) (rest := []) hE hml hH mc_X7_86 (c_Tm_fill l z G1 iv13 jv1 (t + 20) tab hk hTm (t + 42) (t + 43) (by omega) rfl f42 f43 k42 k43 hTs hT2 hz10) (hTm.1.1) (hTm.1.2) (by decide) rfl ⟨Nat.le_of_ble_eq_true rfl, Nat.le_of_ble_eq_true rfl⟩ rfl hl.1 (by simp [Value.category]) dX7_findAll_20 ⟨by show 0 + 2 + 0 + 0 + 0 + 2 ≤ 4; omega, by show 0 + 10 + 0 + 0 + 0 + 10 ≤ 20; omega⟩ (fun G20 iv20 jv20 H locs hp20 hH => ?_)
  obtain ⟨hS20_5, hV, hU20_5, hJ20_5⟩ := hp20
  have hl : lv_has ls 1 [(0, .ref (G20.ad t))] := by rw [hS20_5.adm (wt.1)]; exact hl
  have hTb0 := hTb0.e hS20_5 hm5 (by omega) (by omega)
  have wt := And.intro (hS20_5.mem wt.1) (hS20_5.kd wt.2)
  have k42 : G20.kd (t + 42) = 13 := by rw [EX_kd hS20_5]; exact k42
  have k43 : G20.kd (t + 43) = 13 := by rw [EX_kd hS20_5]; exact k43
  have hEX := hEX.tr (hS20_5.mono (c := t + 40) (d := t + 44) (by omega) (by omega))
  have hLy := hLy.fr2 hU20_5 hJ20_5 (fun lb j _ _ => by omega) (fun lb j _ _ => by omega)
  have h1 := (hU20_5 _ _ (by omega)).trans h1
  have z16 := (hU20_5 _ _ (by omega)).trans z16
  have hCV := hCV.fr hU20_5 (fun i hi c => by omega)
  have h7 := (hU20_5 _ _ (by omega)).trans h7
  have hdn := (fun (d : Nat) (hd : d < tC tab) => And.intro ((hU20_5 _ _ (by omega)).trans (hdn d hd).1) (And.intro ((hU20_5 _ _ (by omega)).trans (hdn d hd).2.1) ((hU20_5 _ _ (by omega)).trans (hdn d hd).2.2)))
  have hho := (fun (d : Nat) (hd : d < tC tab) (hn : frow tab d = none) => (hU20_5 _ _ (by omega)).trans (hho d hd hn))
  have hQL := hQL.fr hU20_5 (by omega) (fun k => by omega) (fun k => by omega)
  have hid := (fun (k : Nat) (hd : k < tR tab) => (hU20_5 _ _ (by omega)).trans (hid k hd))
  have h12 := (hU20_5 _ _ (by omega)).trans h12
  have hFr := hFr.tr (hU20_5.mono (P' := fun lb _ => t ≤ lb ∧ lb < t + 44) (fun lb j h => by omega))
  have hFj := hFj.tr (hJ20_5.mono (P' := fun lb _ => t ≤ lb ∧ lb < t + 44) (fun lb j h => by omega))
  have hTb1 := hTb0
  obtain ⟨⟨mt, kt⟩, hL, hCa, hA10, hA11, hA12, hA13, hA14, hA15, hA16, hA17, hTm, r0, r2, r3, r4, r5, r6, r8, r9, r11, r13, r14⟩ := hTb1
  refine lv_aload_n hE.1 hE.2.1 dX7_findAll_23 rfl (lv_at hl 0 rfl) ?_
  refine rg_getr hE hH cf_X7 fl_X7_67 rfl (wt.1) (wt.2) (v := t + 20) (r13) dX7_findAll_24 ?_
  refine lv_aload_n hE.1 hE.2.1 dX7_findAll_27 rfl (lv_at hl 0 rfl) ?_
  refine rg_getr hE hH cf_X7 fl_X7_30 rfl (wt.1) (wt.2) (v := t + 10) (r3) dX7_findAll_28 ?_
  refine rg_VV (As := [.ref (G20.ad (t + 10))]) (rest := []) hE hml hH mc_X7_89 (c_Tm_only l z G20 iv20 jv20 (t + 20) tab hk hTm hV (t + 10) hA10 (by omega) (fun c hc => (hdn c hc).1)) (hTm.1.1) (hTm.1.2) (by decide) rfl ⟨Nat.le_of_ble_eq_true rfl, Nat.le_of_ble_eq_true rfl⟩ rfl hl.1 (by simp [Value.category]) dX7_findAll_31 ⟨by show 0 + 2 + 0 + 0 + 0 + 2 + 0 ≤ 4; omega, by show 0 + 10 + 0 + 0 + 0 + 10 + 0 ≤ 20; omega⟩ (fun G31 iv31 jv31 H locs hp31 hH => ?_)
  obtain ⟨rfl, rfl, hon, hU31_6⟩ := hp31
  have hJ31_6 : FrJ jv20 jv20 (fun lb _ => lb = t) := FrJ.rf
  have hLy := hLy.fr2 hU31_6 hJ31_6 (fun lb j _ _ => by omega) (fun lb j _ _ => by omega)
  have h1 := (hU31_6 _ _ (by omega)).trans h1
  have z16 := (hU31_6 _ _ (by omega)).trans z16
  have hCV := hCV.fr hU31_6 (fun i hi c => by omega)
  have h7 := (hU31_6 _ _ (by omega)).trans h7
  have hdn := (fun (d : Nat) (hd : d < tC tab) => And.intro ((hU31_6 _ _ (by omega)).trans (hdn d hd).1) (And.intro ((hU31_6 _ _ (by omega)).trans (hdn d hd).2.1) ((hU31_6 _ _ (by omega)).trans (hdn d hd).2.2)))
  have hho := (fun (d : Nat) (hd : d < tC tab) (hn : frow tab d = none) => (hU31_6 _ _ (by omega)).trans (hho d hd hn))
  have hQL := hQL.fr hU31_6 (by omega) (fun k => by omega) (fun k => by omega)
  have hid := (fun (k : Nat) (hd : k < tR tab) => (hU31_6 _ _ (by omega)).trans (hid k hd))
  have h12 := (hU31_6 _ _ (by omega)).trans h12
  have hV := hV.fr hU31_6 (by omega) (fun lb j _ _ => by omega) hm5
  have hFr := hFr.tr (hU31_6.mono (P' := fun lb _ => t ≤ lb ∧ lb < t + 44) (fun lb j h => by omega))
  have hFj := hFj.tr (hJ31_6.mono (P' := fun lb _ => t ≤ lb ∧ lb < t + 44) (fun lb j h => by omega))
  refine lv_aload_n hE.1 hE.2.1 dX7_findAll_34 rfl (lv_at hl 0 rfl) ?_
  refine rg_VV (As := []) (rest := []) hE hml hH mc_X7_93 (c_Tb_take l z G20 iv31 jv20 t b tab hk hTb0 ht hb hbt hV hCV (fun c hc => (hdn c hc).1) hon hLy ⟨z16, fun k hk => absurd hk (Nat.not_lt_zero k)⟩) (wt.1) (wt.2) (by decide) rfl ⟨Nat.le_of_ble_eq_true rfl, Nat.le_of_ble_eq_true rfl⟩ rfl hl.1 (by simp [Value.category]) dX7_findAll_35 ⟨by show 0 + 2 + 0 + 0 + 0 + 2 + 0 + 0 ≤ 4; omega, by show 0 + 10 + 0 + 0 + 0 + 10 + 0 + 0 ≤ 20; omega⟩ (fun G35 iv35 jv35 H locs hp35 hH => ?_)
  obtain ⟨rfl, rfl, hTK, h15, hU35_7⟩ := hp35
  have hJ35_7 : FrJ jv20 jv20 (fun lb _ => lb = t) := FrJ.rf
  have hLy := hLy.fr2 hU35_7 hJ35_7 (fun lb j _ _ => by omega) (fun lb j _ _ => by omega)
  have h1 := (hU35_7 _ _ (by omega)).trans h1
  have hCV := hCV.fr hU35_7 (fun i hi c => by omega)
  have h7 := (hU35_7 _ _ (by omega)).trans h7
  have hdn := (fun (d : Nat) (hd : d < tC tab) => And.intro ((hU35_7 _ _ (by omega)).trans (hdn d hd).1) (And.intro ((hU35_7 _ _ (by omega)).trans (hdn d hd).2.1) ((hU35_7 _ _ (by omega)).trans (hdn d hd).2.2)))
  have hho := (fun (d : Nat) (hd : d < tC tab) (hn : frow tab d = none) => (hU35_7 _ _ (by omega)).trans (hho d hd hn))
  have hQL := hQL.fr hU35_7 (by omega) (fun k => by omega) (fun k => by omega)
  have hid := (fun (k : Nat) (hd : k < tR tab) => (hU35_7 _ _ (by omega)).trans (hid k hd))
  have h12 := (hU35_7 _ _ (by omega)).trans h12
  have hV := hV.fr hU35_7 (by omega) (fun lb j _ _ => by omega) hm5
  have hon := (fun (p : Nat) (hp : p < tT tab) => Exists.elim (hon p hp) (fun y h => (⟨y, (hU35_7 _ _ (by omega)).trans h.1, h.2⟩ : ∃ y, _ = y ∧ onR y (AV tab p))))
  have hFr := hFr.tr (hU35_7.mono (P' := fun lb _ => t ≤ lb ∧ lb < t + 44) (fun lb j h => by omega))
  have hFj := hFj.tr (hJ35_7.mono (P' := fun lb _ => t ≤ lb ∧ lb < t + 44) (fun lb j h => by omega))
  refine W.widen (k := 4) (n := 20) (by show 0 + 2 + 0 + 0 + 0 + 2 + 0 + 0 ≤ 4; omega) (by show 0 + 10 + 0 + 0 + 0 + 10 + 0 + 0 ≤ 20; omega) ?_
  exact rg_vret hE hr hlk hH ⟨hEX, ⟨h1, hCV, ⟨h7, hdn, hho⟩, hQL, ⟨hid, h12⟩, hV, hon, hTK, h15⟩, hFr, hFj⟩ dX7_findAll_38
set_option maxRecDepth 100000 in
set_option maxHeartbeats 4000000 in
theorem c_Pg_init (l : Launch) (z : ZK) (G : GW) (iv : IV) (jv : JV) (p t : Nat) (tab : Tab) (hk : tabOK tab) (wp : p ∈ G.L ∧ G.kd p = 5) (wt : t ∈ G.L ∧ G.kd t = 7) (f1 : p + 1 ∉ G.L) (k1 : G.kd (p + 1) = 13) (h1 : iv t 1 = nI (tC tab)) (hpt : t < p ∨ p + 2 ≤ t) : cV l z yX5_init cX5_init 2 none 1 20 1 400 [.ref (G.ad p), .ref (G.ad t)] G iv jv (fun G' iv' jv' => EX G G' p (p + 2) ∧ isPg G' p t (tC tab) ∧ Fr iv iv' (fun lb _ => p ≤ lb ∧ lb < p + 2) ∧ FrJ jv jv' (fun lb _ => p ≤ lb ∧ lb < p + 2)) := by
  intro sz
  refine rg_entry rfl (Nat.le_of_ble_eq_true rfl) ?_
  intro pq eq sq mq bq methq cq ls hE hr hlk hml hnm hl hsz hH
  have hl : lv_has ls 2 [(0, .ref (G.ad p)), (1, .ref (G.ad t))] := hl
  have hC4 := hk.2.2.2.1
  have hEX : EX G G p (p + 2) := EX.rf
  have hFr : Fr iv iv (fun lb _ => p ≤ lb ∧ lb < p + 2) := Fr.rf
  have hFj : FrJ jv jv (fun lb _ => p ≤ lb ∧ lb < p + 2) := FrJ.rf
  refine lv_aload_n hE.1 hE.2.1 dX5_init_0 rfl (lv_at hl 0 rfl) ?_
  refine rg_obj (rest := []) hE ⟨(b4 62 rfl rfl), (b1 30 rfl rfl), (b1 31 rfl rfl)⟩ hml hl.1 rfl dX5_init_1 (Nat.le_of_ble_eq_true rfl) (Nat.le_of_ble_eq_true rfl) ?_
  refine lv_aload_n hE.1 hE.2.1 dX5_init_4 rfl (lv_at hl 0 rfl) ?_
  refine lv_aload_n hE.1 hE.2.1 dX5_init_5 rfl (lv_at hl 1 rfl) ?_
  refine rg_putrF hE hH cf_X5 fl_X5_9 rfl fn_X5_0 fo_X5_0 hnm (wp.1) (wp.2) (v := t) (wt.1) dX5_init_6 (fun H locs hH => ?_)
  have hX6_1 := GX.set (G := G) (lb := p) (k := 0) (v := some (t))
  have hS6_1 := EX.set (G := G) (lb := p) (k := 0) (v := some (t))
  have qp_0 := setR_s (G := G) (lb := p) (k := 0) (v := some (t))
  generalize (G.setR (up2 G.rv p 0 (some t))) = G6_1 at hH hX6_1 hS6_1 qp_0
  have hl : lv_has ls 2 [(0, .ref (G6_1.ad p)), (1, .ref (G6_1.ad t))] := by rw [hS6_1.adm (wp.1), hS6_1.adm (wt.1)]; exact hl
  have wp := And.intro (hS6_1.mem wp.1) (hS6_1.kd wp.2)
  have wt := And.intro (hS6_1.mem wt.1) (hS6_1.kd wt.2)
  have f1 := hS6_1.nin f1 (Or.inr (dle p (a := 1) (c := 1) (by decide)))
  have k1 : G6_1.kd (p + 1) = 13 := by rw [EX_kd hS6_1]; exact k1
  have hEX := hEX.tr (hS6_1.mono (c := p) (d := p + 2) (dle p (a := 0) (c := 0) (by decide)) (dle p (a := 1) (c := 2) (by decide)))
  refine lv_aload_n hE.1 hE.2.1 dX5_init_9 rfl (lv_at hl 0 rfl) ?_
  refine lv_aload_n hE.1 hE.2.1 dX5_init_10 rfl (lv_at hl 1 rfl) ?_
  refine rg_geti hE hH cf_X7 fl_X5_15 rfl (wt.1) (wt.2) (v := nI (tC tab)) (h1) dX5_init_11 ?_
  refine rg_newI (ty := .int) rfl hE hH (p + 1) f1 k1 (Or.inr (Or.inl ⟨rfl, rfl⟩)) (by omega) (by show 0 + 1 ≤ 1; omega) (by show 0 + (tC tab) ≤ 400; omega) dX5_init_14 (fun G14_2 H hX14_2 hln14_2 hrv14_2 hH => ?_)
  have hS14_2 := hX14_2.ex1 f1
  have wp_1 : isA G14_2 (p + 1) 13 (tC tab) := ⟨hX14_2.new (List.mem_singleton_self _), hX14_2.kd k1, hln14_2⟩
  have hl : lv_has ls 2 [(0, .ref (G14_2.ad p)), (1, .ref (G14_2.ad t))] := by rw [hS14_2.adm (wp.1), hS14_2.adm (wt.1)]; exact hl
  refine rg_st (st' := [.ref (G14_2.ad (p + 1)), .ref (G14_2.ad p)]) (by rw [hS14_2.adm (wp.1)]) ?_
  have wp := And.intro (hS14_2.mem wp.1) (hS14_2.kd wp.2)
  have wt := And.intro (hS14_2.mem wt.1) (hS14_2.kd wt.2)
  have k1 : G14_2.kd (p + 1) = 13 := by rw [EX_kd hS14_2]; exact k1
  have qp_0 := hS14_2.rv (Or.inl (dl p (a := 0) (c := 1) (by decide))) qp_0
  have hEX := hEX.tr (hS14_2.mono (c := p) (d := p + 2) (dle p (a := 0) (c := 1) (by decide)) (dle p (a := 2) (c := 2) (by decide)))
  have hU14_2 : Fr iv (clr iv (p + 1) 0) (fun b0 _ => b0 = p + 1) := Fr.clr Fr.rf (fun _ => rfl)
  have hJ14_2 : FrJ jv (clr jv (p + 1) 0) (fun b0 _ => b0 = p + 1) := FrJ.clr FrJ.rf (fun _ => rfl)
  have h1 := (hU14_2 _ _ (by omega)).trans h1
  have hFr := hFr.tr (hU14_2.mono (P' := fun lb _ => p ≤ lb ∧ lb < p + 2) (fun lb j h => by rw [h]; exact ⟨dle p (a := 0) (c := 1) (by decide), dl p (a := 1) (c := 2) (by decide)⟩))
  have hFj := hFj.tr (hJ14_2.mono (P' := fun lb _ => p ≤ lb ∧ lb < p + 2) (fun lb j h => by rw [h]; exact ⟨dle p (a := 0) (c := 1) (by decide), dl p (a := 1) (c := 2) (by decide)⟩))
  generalize clr iv (p + 1) 0 = iv14_2 at hH hFr hU14_2 h1
  generalize clr jv (p + 1) 0 = jv14_2 at hH hFj hJ14_2 
  refine rg_putrF hE hH cf_X5 fl_X5_21 rfl fn_X5_1 fo_X5_1 hnm (wp.1) (wp.2) (v := p + 1) (wp_1.1) dX5_init_16 (fun H locs hH => ?_)
  have hX16_3 := GX.set (G := G14_2) (lb := p) (k := 1) (v := some (p + 1))
  have hS16_3 := EX.set (G := G14_2) (lb := p) (k := 1) (v := some (p + 1))
  have qp_1 := setR_s (G := G14_2) (lb := p) (k := 1) (v := some (p + 1))
  generalize (G14_2.setR (up2 G14_2.rv p 1 (some (p + 1)))) = G16_3 at hH hX16_3 hS16_3 qp_1
  have hl : lv_has ls 2 [(0, .ref (G16_3.ad p)), (1, .ref (G16_3.ad t))] := by rw [hS16_3.adm (wp.1), hS16_3.adm (wt.1)]; exact hl
  have wp := And.intro (hS16_3.mem wp.1) (hS16_3.kd wp.2)
  have wt := And.intro (hS16_3.mem wt.1) (hS16_3.kd wt.2)
  have k1 : G16_3.kd (p + 1) = 13 := by rw [EX_kd hS16_3]; exact k1
  have qp_0 := hX16_3.rv List.not_mem_nil (fun h => absurd h.2 (by decide)) qp_0
  have wp_1 := wp_1.em hS16_3
  have hEX := hEX.tr (hS16_3.mono (c := p) (d := p + 2) (dle p (a := 0) (c := 0) (by decide)) (dle p (a := 1) (c := 2) (by decide)))
  refine W.widen (k := 1) (n := 400) (by show 0 + 1 ≤ 1; omega) (by show 0 + (tC tab) ≤ 400; omega) ?_
  exact rg_vret hE hr hlk hH ⟨hEX, ⟨wp, wp_1, qp_0, qp_1⟩, hFr, hFj⟩ dX5_init_19
