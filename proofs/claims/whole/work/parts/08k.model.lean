set_option maxRecDepth 100000 in
set_option maxHeartbeats 4000000 in
theorem c_x_table (l : Launch) (z : ZK) (hlt : l.stackTraces = false) (G : GW) (iv : IV) (jv : JV) (a : AS) (hX : CSt G iv jv a) (x : Int32) (mc ms : Nat) (hmc : 1 + 60 * tNew a x ≤ mc) (hms : 6 + 83000 * tNew a x ≤ ms) : cXI l z yX10_table cX10_table 4 (some .int) 9 240 mc ms [.ref (G.ad 100), .int (x)] G iv jv (fun r G' iv' jv' => EX G G' 100 100000 ∧ ((spTable a x).1 = 0 ∧ r = (spTable a x).2.1 ∧ CSt G' iv' jv' (spTable a x).2.2) ∧ Fr iv iv' (fun lb _ => 100 ≤ lb) ∧ FrJ jv jv' (fun lb _ => 100 ≤ lb)) (fun E G' iv' jv' => G = G' ∧ iv = iv' ∧ jv = jv' ∧ E = nIAE ∧ spTable a x = no 1 a) := by
  intro sz
  refine rx_entry rfl (Nat.le_of_ble_eq_true rfl) ?_
  intro pq eq sq mq bq methq cq ls hE hr hlk hml hnm hl hsz hxt hH
  have hl : lv_has ls 4 [(0, .ref (G.ad 100)), (1, .int (x))] := hl
  have hX0 := hX
  obtain ⟨⟨w100, hPx, w107, w108, hOu, q100_0, q100_2, q100_3, q100_5, q100_10⟩, ⟨hLa, hWh, q100_7, q100_8⟩, ⟨tp1, tp2, tp3, tp4⟩, hfa, ⟨tc1, tc2, tc3⟩, ⟨pc1, pc2, pc3⟩, hO, ⟨hBd0, hkdF⟩⟩ := hX
  obtain ⟨T, hTe⟩ : ∃ T, T = (aT a).length := ⟨_, rfl⟩
  obtain ⟨P, hPe⟩ : ∃ P, P = (aP a).length := ⟨_, rfl⟩
  obtain ⟨b, hbe⟩ : ∃ b, b = bL T := ⟨_, rfl⟩
  obtain ⟨w, hwe⟩ : ∃ w, w = wL P := ⟨_, rfl⟩
  rw [← hTe, ← hbe] at hLa q100_7
  rw [← hTe] at tc1 tc2 tc3
  rw [← hPe] at pc1 pc2 pc3
  rw [← hTe, ← hPe, ← hbe, ← hwe] at hBd0
  have hbv : b = 10000 + 1000 * T := hbe
  have hwv : w = 20000 + 1000 * P := hwe
  have hR7 : ∀ k, k < T → G.rv 107 k = some (tL k) := fun k hk => (tc3 k hk).1
  have hR8 : ∀ k, k < P → G.rv 108 k = some (gL k) := fun k hk => (pc3 k hk).1
  have hk5 : ∀ k, k < T → tm (aTb a k) ≤ 5 := fun k hk => (tc3 k hk).2.2.2.2.1.2.1
  have hTbs : ∀ k, k < T → isTb G (tL k) (bL k) (tm (aTb a k)) (tC (aTb a k)) (tR (aTb a k)) (tT (aTb a k)) := fun k hk => (tc3 k hk).2.1
  have hPgs : ∀ k, k < P → isPg G (gL k) (tL (aPg a k).1) (tC (aTb a (aPg a k).1)) := fun k hk => (pc3 k hk).2.2.1
  have hBd : ∀ lb ∈ G.L, lb < 1000 ∨ (10000 ≤ lb ∧ lb < b + 1100) ∨ (20000 ≤ lb ∧ lb < w + 100) := fun lb hm => by have := hBd0 lb hm; omega
  have f100 : b + 100 ∉ G.L := fun hm => by have := hBd0 _ hm; omega
  have hfr : ∀ x, b + 101 ≤ x → x < b + 140 → x ∉ G.L := fun x h1 h2 hm => by have := hBd0 x hm; omega
  have hf2 : ∀ x, b + 140 ≤ x → x < b + 144 → x ∉ G.L := fun x h1 h2 hm => by have := hBd0 x hm; omega
  have fN : b + 1000 ∉ G.L := fun hm => by have := hBd0 _ hm; omega
  have hfN : ∀ x, b + 1001 ≤ x → x < b + 1040 → x ∉ G.L := fun x h1 h2 hm => by have := hBd0 x hm; omega
  have hkT : ∀ i, i < 44 → G.kd (b + 100 + i) = kTb i := fun i hi => by rw [hkdF, hbv]; exact kdF_T (by omega) hi
  have hkN : ∀ i, i < 33 → G.kd (b + 1000 + i) = kLa i := fun i hi => by rw [hkdF, show b + 1000 + i = 10000 + 1000 * (T + 1) + i by omega]; exact kdF_L (by omega) hi
  have i100_1 := tp1
  have i100_4 := tc1
  have i100_9 := hfa
  have hEX : EX G G 100 100000 := EX.rf
  have hFr : Fr iv iv (fPt b) := Fr.rf
  have hFj : FrJ jv jv (fPt b) := FrJ.rf
  refine lv_aload_n hE.1 hE.2.1 dX10_table_0 rfl (lv_at hl 0 rfl) ?_
  refine lv_iload_n hE.1 hE.2.1 dX10_table_1 rfl (lv_at hl 1 rfl) ?_
  refine rx_VV (As := [.int (x)]) (rest := []) hE hml hH mc_X10_70 (c_x_bytes l z hlt G iv jv a hX0 x) (w100.1) (w100.2) (by decide) rfl ⟨Nat.le_of_ble_eq_true rfl, Nat.le_of_ble_eq_true rfl⟩ rfl hl.1 (by simp [Value.category]) dX10_table_2 ⟨by show 0 + 1 ≤ mc; omega, by show 0 + 6 ≤ ms; omega⟩ (fun E ce q G' iv' jv' H locs hpx hH hce hcv hcl => rx_out hE hH hxt hlk hce hcv hcl (by show 0 + 1 ≤ mc; omega) (by show 0 + 6 ≤ ms; omega) (by obtain ⟨rfl, rfl, rfl, rfl, hcx⟩ := hpx; exact ⟨rfl, rfl, rfl, rfl, by rw [spTable, onK_f hcx]⟩)) (fun G2 iv2 jv2 H locs hp2 hH => ?_)
  obtain ⟨rfl, rfl, rfl, hq2⟩ := hp2
  obtain ⟨n, hn, rfl⟩ := inI_of (by omega) hq2
  have hsp : spTable a (nI n) = (if (aT a).length = 6 then ok (-9) (0, aY a, -1, aT a, aP a, aO a) else if (rdTable (aY a) n).1 ≠ 0 then ok (-1 - nI (rdTable (aY a) n).1) (0, aY a, nI (tb (rdTable (aY a) n).2.2), aT a, aP a, aO a) else ok (nI (aT a).length) (0, aY a, -1, aT a ++ [(rdTable (aY a) n).2.1], aP a, aO a)) := by rw [spTable, onK_t hn (by omega)]
  refine lv_aload_n hE.1 hE.2.1 dX10_table_5 rfl (lv_at hl 0 rfl) ?_
  refine lv_iconst (v := nI 0) hE.1 hE.2.1 dX10_table_6 (by decide) ?_
  refine rg_puti hE hH cf_X10 fl_X10_13 rfl fn_X10_1 (w100.1) (w100.2) (v := nI 0) dX10_table_7 (fun H locs hH => ?_)
  have hU7_1 : Fr iv (up2 iv 100 1 (nI 0)) (fun b0 j => b0 = 100 ∧ j = 1) := Fr.up Fr.rf ⟨rfl, rfl⟩
  have hJ7_1 : FrJ jv jv (fun b0 j => b0 = 100 ∧ j = 1) := FrJ.rf
  have i100_4 := (hU7_1 _ _ (by omega)).trans i100_4
  have i100_9 := (hU7_1 _ _ (by omega)).trans i100_9
  have hFr := hFr.tr (hU7_1.mono (P' := (fPt b)) (fun lb j h => by unfold fPt; omega))
  have hFj := hFj.tr (hJ7_1.mono (P' := (fPt b)) (fun lb j h => by unfold fPt; omega))
  have i100_1 : (up2 iv 100 1 (nI 0)) (100) 1 = nI 0 := up2_s
  generalize up2 iv 100 1 (nI 0) = iv7_1 at hH hFr hU7_1 i100_4 i100_9 i100_1
  refine lv_aload_n hE.1 hE.2.1 dX10_table_10 rfl (lv_at hl 0 rfl) ?_
  refine lv_iconst (v := -1) hE.1 hE.2.1 dX10_table_11 (by decide) ?_
  refine rg_puti hE hH cf_X10 fl_X10_56 rfl fn_X10_9 (w100.1) (w100.2) (v := -1) dX10_table_12 (fun H locs hH => ?_)
  have hU12_2 : Fr iv7_1 (up2 iv7_1 100 9 (-1)) (fun b0 j => b0 = 100 ∧ j = 9) := Fr.up Fr.rf ⟨rfl, rfl⟩
  have hJ12_2 : FrJ jv jv (fun b0 j => b0 = 100 ∧ j = 9) := FrJ.rf
  have i100_4 := (hU12_2 _ _ (by omega)).trans i100_4
  have i100_1 := (hU12_2 _ _ (by omega)).trans i100_1
  have hFr := hFr.tr (hU12_2.mono (P' := (fPt b)) (fun lb j h => by unfold fPt; omega))
  have hFj := hFj.tr (hJ12_2.mono (P' := (fPt b)) (fun lb j h => by unfold fPt; omega))
  have i100_9 : (up2 iv7_1 100 9 (-1)) (100) 9 = -1 := up2_s
  generalize up2 iv7_1 100 9 (-1) = iv12_2 at hH hFr hU12_2 i100_4 i100_1 i100_9
  refine lv_aload_n hE.1 hE.2.1 dX10_table_15 rfl (lv_at hl 0 rfl) ?_
  refine rg_geti hE hH cf_X10 fl_X10_30 rfl (w100.1) (w100.2) (v := nI T) (i100_4) dX10_table_16 ?_
  refine lv_bipush (v := nI 6) hE.1 hE.2.1 dX10_table_19 (by decide) ?_
  refine rn_icmp_lt (tgt := 27) hE dX10_table_21 (by decide) (by omega) (by omega) (fun c21 => ?_) (fun c21 => ?_)
  · have h6 : ¬ (aT a).length = 6 := by omega
    refine lv_aload_n hE.1 hE.2.1 dX10_table_27 rfl (lv_at hl 0 rfl) ?_
    refine rg_getr hE hH cf_X10 fl_X10_20 rfl (w100.1) (w100.2) (v := 102) (q100_2) dX10_table_28 ?_
    refine lv_aload_n hE.1 hE.2.1 dX10_table_31 rfl (lv_at hl 0 rfl) ?_
    refine rg_getr hE hH cf_X10 fl_X10_9 rfl (w100.1) (w100.2) (v := 101) (q100_0) dX10_table_32 ?_
    refine lv_iload_n hE.1 hE.2.1 dX10_table_35 rfl (lv_at hl 1 rfl) ?_
    refine lv_aload_n hE.1 hE.2.1 dX10_table_36 rfl (lv_at hl 0 rfl) ?_
    refine rg_getr hE hH cf_X10 fl_X10_45 rfl (w100.1) (w100.2) (v := b) (q100_7) dX10_table_37 ?_
    refine rg_VI (As := [.ref (G.ad 101), .int (nI n), .ref (G.ad b)]) (rest := []) hE hml hH mc_X10_73 (c_Pa_table l z G hPx iv12_2 jv (aY a) n ⟨by omega, fun k hk => (hFr _ _ (by unfold fPt; omega)).trans (tp3 k (by omega)), fun k hk => tp4 k (by omega)⟩ b hLa (by omega)) (hPx.1.1) (hPx.1.2) (by decide) rfl ⟨Nat.le_of_ble_eq_true rfl, Nat.le_of_ble_eq_true rfl⟩ rfl hl.1 (by simp [Value.category]) dX10_table_40 ⟨by show 0 + 1 + 0 ≤ mc; omega, by show 0 + 6 + 0 ≤ ms; omega⟩ (fun r40 G40 iv40 jv40 H locs hp40 hH => ?_)
    obtain ⟨rfl, rfl, hLR, hLyF, hU40_3, hJ40_3⟩ := hp40
    have hU40_3 := hU40_3.mono (P' := fun lb j => (102 ≤ lb ∧ lb ≤ 106) ∨ (b ≤ lb ∧ lb < b + 40)) (fun lb j h => by simp only [pT2] at h; omega)
    have hJ40_3 := hJ40_3.mono (P' := fun lb j => (102 ≤ lb ∧ lb ≤ 106) ∨ (b ≤ lb ∧ lb < b + 40)) (fun lb j h => by simp only [qT2] at h; omega)
    have i100_4 := (hU40_3 _ _ (by omega)).trans i100_4
    have i100_1 := (hU40_3 _ _ (by omega)).trans i100_1
    have i100_9 := (hU40_3 _ _ (by omega)).trans i100_9
    have hFr := hFr.tr (hU40_3.mono (P' := (fPt b)) (fun lb j h => by unfold fPt; omega))
    have hFj := hFj.tr (hJ40_3.mono (P' := (fPt b)) (fun lb j h => by unfold fPt; omega))
    have hrc : (rdTable (aY a) n).1 ≤ 4 := rdTable_c
    refine lv_istore_n (lv' := [(2, .int (nI ((rdTable (aY a) n).1))), (0, .ref (G.ad 100)), (1, .int (nI n))]) hE.1 hE.2.1 dX10_table_43 rfl hl (by decide) rfl (fun ls hl => ?_)
    refine lv_iload_n hE.1 hE.2.1 dX10_table_44 rfl (lv_at hl 0 rfl) ?_
    refine rn_if_eq (tgt := 63) hE dX10_table_45 (by decide) (by omega) (fun c45 => ?_) (fun c45 => ?_)
    · have hr0 : (rdTable (aY a) n).1 = 0 := by omega
      have hLy := hLyF hr0
      have hro := rdTable_ok (B := aY a) (n := n) hr0
      have hnw : tNew a (nI n) = 1 := by unfold tNew; rw [hsp, if_neg h6, if_neg (by omega)]; show (aT a ++ [_]).length - _ = 1; rw [List.length_append, List.length_singleton]; omega
      rw [hnw] at hmc hms
      have hkt := hro.1
      have hW := hro.2
      have hm5 := hkt.2.1
      refine rg_newO (ci := 7) hE hH (b + 100) f100 (hkT 0 (by decide)) cf_X7 ⟨RX7, TX7, rfl, (b1 82 rfl rfl), (b3 23 rfl rfl), (b1 19 rfl rfl)⟩ (by show 0 + 1 + 0 + 1 ≤ mc; omega) (by show 0 + 6 + 0 + 17 ≤ ms; omega) dX10_table_63 (fun G63_4 H hX63_4 hln63_4 hrv63_4 hH => ?_)
      have hS63_4 := hX63_4.ex1 f100
      have wb_100 : (b + 100) ∈ G63_4.L ∧ G63_4.kd (b + 100) = 7 := ⟨hX63_4.new (List.mem_singleton_self _), hX63_4.kd (hkT 0 (by decide))⟩
      have hl : lv_has ls 4 [(2, .int (nI ((rdTable (aY a) n).1))), (0, .ref (G63_4.ad 100)), (1, .int (nI n))] := by rw [hS63_4.adm (w100.1)]; exact hl
      have w100 := And.intro (hS63_4.mem w100.1) (hS63_4.kd w100.2)
      have hPx := hPx.e hS63_4 (by omega)
      have w107 := w107.em hS63_4
      have w108 := w108.em hS63_4
      have hOu := hOu.e hS63_4 (by omega)
      have q100_0 := hS63_4.rv (by omega) q100_0
      have q100_2 := hS63_4.rv (by omega) q100_2
      have q100_3 := hS63_4.rv (by omega) q100_3
      have q100_5 := hS63_4.rv (by omega) q100_5
      have q100_10 := hS63_4.rv (by omega) q100_10
      have q100_7 := hS63_4.rv (by omega) q100_7
      have q100_8 := hS63_4.rv (by omega) q100_8
      have hTbs := (fun (k : Nat) (hk : k < T) => (hTbs k hk).e hS63_4 (hk5 k hk) (by unfold tL; omega) (by unfold bL; omega))
      have hPgs := (fun (k : Nat) (hk : k < P) => (hPgs k hk).e hS63_4 (by unfold gL; omega))
      have hLa := hLa.e hS63_4 (by omega)
      have hWh := hWh.e hS63_4 (by omega)
      have hkdF : G63_4.kd = kdF := by rw [EX_kd hS63_4]; exact hkdF
      have hfr : ∀ x, b + 101 ≤ x → x < b + 140 → x ∉ G63_4.L := fun x h1 h2 => hS63_4.nin (hfr x (Nat.le_trans (dle b (a := 101) (c := 101) (by decide)) h1) h2) (Or.inr (Nat.le_trans (dle b (a := 101) (c := 101) (by decide)) h1))
      have hf2 : ∀ x, b + 140 ≤ x → x < b + 144 → x ∉ G63_4.L := fun x h1 h2 => hS63_4.nin (hf2 x (Nat.le_trans (dle b (a := 140) (c := 140) (by decide)) h1) h2) (Or.inr (Nat.le_trans (dle b (a := 101) (c := 140) (by decide)) h1))
      have fN := hS63_4.nin fN (Or.inr (dle b (a := 101) (c := 1000) (by decide)))
      have hfN : ∀ x, b + 1001 ≤ x → x < b + 1040 → x ∉ G63_4.L := fun x h1 h2 => hS63_4.nin (hfN x (Nat.le_trans (dle b (a := 1001) (c := 1001) (by decide)) h1) h2) (Or.inr (Nat.le_trans (dle b (a := 101) (c := 1001) (by decide)) h1))
      have hkT : ∀ i, i < 44 → G63_4.kd (b + 100 + i) = kTb i := by rw [EX_kd hS63_4]; exact hkT
      have hkN : ∀ i, i < 33 → G63_4.kd (b + 1000 + i) = kLa i := by rw [EX_kd hS63_4]; exact hkN
      have hEX := hEX.tr (hS63_4.mono (c := 100) (d := 100000) (by omega) (by omega))
      have hR7 : ∀ k, k < T → G63_4.rv 107 k = some (tL k) := fun k hk => hS63_4.rv (by omega) (hR7 k hk)
      have hR8 : ∀ k, k < P → G63_4.rv 108 k = some (gL k) := fun k hk => hS63_4.rv (by omega) (hR8 k hk)
      have hBd : ∀ lb ∈ G63_4.L, lb < 1000 ∨ (10000 ≤ lb ∧ lb < b + 1100) ∨ (20000 ≤ lb ∧ lb < w + 100) := fun lb hm => (EX.cov hS63_4 hm).elim (hBd lb) (fun h => by omega)
      have hU63_4 : Fr iv40 (clr iv40 (b + 100) 0) (fun b0 _ => b0 = b + 100) := Fr.clr Fr.rf (fun _ => rfl)
      have hJ63_4 : FrJ jv40 (clr jv40 (b + 100) 0) (fun b0 _ => b0 = b + 100) := FrJ.clr FrJ.rf (fun _ => rfl)
      have i100_4 := (hU63_4 _ _ (by omega)).trans i100_4
      have i100_1 := (hU63_4 _ _ (by omega)).trans i100_1
      have i100_9 := (hU63_4 _ _ (by omega)).trans i100_9
      have hLy := hLy.fr2 hU63_4 hJ63_4 (fun lb j _ _ => by omega) (fun lb j _ _ => by omega)
      have hFr := hFr.tr (hU63_4.mono (P' := (fPt b)) (fun lb j h => by unfold fPt; omega))
      have hFj := hFj.tr (hJ63_4.mono (P' := (fPt b)) (fun lb j h => by unfold fPt; omega))
      have hzT : ∀ j, (clr iv40 (b + 100) 0) (b + 100) j = 0 := fun j => clr_s
      generalize clr iv40 (b + 100) 0 = iv63_4 at hH hFr hU63_4 i100_4 i100_1 i100_9 hLy hzT
      generalize clr jv40 (b + 100) 0 = jv63_4 at hH hFj hJ63_4 hLy
      refine lv_dup hE.1 hE.2.1 dX10_table_66 rfl ?_
      refine lv_aload_n hE.1 hE.2.1 dX10_table_67 rfl (lv_at hl 1 rfl) ?_
      refine rg_getr hE hH cf_X10 fl_X10_45 rfl (w100.1) (w100.2) (v := b) (q100_7) dX10_table_68 ?_
      refine rg_IV (As := [.ref (G63_4.ad b)]) (rest := [.ref (G63_4.ad (b + 100))]) hE hml hH mc_X10_81 (c_Tb_init l z G63_4 iv63_4 jv63_4 b (rdTable (aY a) n).2.1 hkt hLa hLy (b + 100) wb_100 hfr hkT (by omega) hzT) rfl ⟨Nat.le_of_ble_eq_true rfl, Nat.le_of_ble_eq_true rfl⟩ rfl hl.1 (by simp [Value.category]) dX10_table_71 ⟨by show 0 + 1 + 0 + 1 + 30 ≤ mc; omega, by show 0 + 6 + 0 + 17 + 81000 ≤ ms; omega⟩ (fun G71 iv71 jv71 H locs hp71 hH => ?_)
      obtain ⟨hS71_5, hTbn, hn1, ⟨hn7, hn10, hn12, hn16⟩, hTs, hT2, hz10, hU71_5, hJ71_5⟩ := hp71
      have hl : lv_has ls 4 [(2, .int (nI ((rdTable (aY a) n).1))), (0, .ref (G71.ad 100)), (1, .int (nI n))] := by rw [hS71_5.adm (w100.1)]; exact hl
      refine rg_st (st' := [.ref (G71.ad (b + 100))]) (by rw [hS71_5.adm (wb_100.1)]) ?_
      have w100 := And.intro (hS71_5.mem w100.1) (hS71_5.kd w100.2)
      have hPx := hPx.e hS71_5 (by omega)
      have w107 := w107.em hS71_5
      have w108 := w108.em hS71_5
      have hOu := hOu.e hS71_5 (by omega)
      have q100_0 := hS71_5.rv (by omega) q100_0
      have q100_2 := hS71_5.rv (by omega) q100_2
      have q100_3 := hS71_5.rv (by omega) q100_3
      have q100_5 := hS71_5.rv (by omega) q100_5
      have q100_10 := hS71_5.rv (by omega) q100_10
      have q100_7 := hS71_5.rv (by omega) q100_7
      have q100_8 := hS71_5.rv (by omega) q100_8
      have hTbs := (fun (k : Nat) (hk : k < T) => (hTbs k hk).e hS71_5 (hk5 k hk) (by unfold tL; omega) (by unfold bL; omega))
      have hPgs := (fun (k : Nat) (hk : k < P) => (hPgs k hk).e hS71_5 (by unfold gL; omega))
      have hLa := hLa.e hS71_5 (by omega)
      have hWh := hWh.e hS71_5 (by omega)
      have hkdF : G71.kd = kdF := by rw [EX_kd hS71_5]; exact hkdF
      have hf2 : ∀ x, b + 140 ≤ x → x < b + 144 → x ∉ G71.L := fun x h1 h2 => hS71_5.nin (hf2 x (by omega) h2) (by omega)
      have fN := hS71_5.nin fN (by omega)
      have hfN : ∀ x, b + 1001 ≤ x → x < b + 1040 → x ∉ G71.L := fun x h1 h2 => hS71_5.nin (hfN x (by omega) h2) (by omega)
      have hkT : ∀ i, i < 44 → G71.kd (b + 100 + i) = kTb i := by rw [EX_kd hS71_5]; exact hkT
      have hkN : ∀ i, i < 33 → G71.kd (b + 1000 + i) = kLa i := by rw [EX_kd hS71_5]; exact hkN
      have wb_100 := And.intro (hS71_5.mem wb_100.1) (hS71_5.kd wb_100.2)
      have hEX := hEX.tr (hS71_5.mono (c := 100) (d := 100000) (by omega) (by omega))
      have hR7 : ∀ k, k < T → G71.rv 107 k = some (tL k) := fun k hk => hS71_5.rv (by omega) (hR7 k hk)
      have hR8 : ∀ k, k < P → G71.rv 108 k = some (gL k) := fun k hk => hS71_5.rv (by omega) (hR8 k hk)
      have hBd : ∀ lb ∈ G71.L, lb < 1000 ∨ (10000 ≤ lb ∧ lb < b + 1100) ∨ (20000 ≤ lb ∧ lb < w + 100) := fun lb hm => (EX.cov hS71_5 hm).elim (hBd lb) (fun h => by omega)
      have i100_4 := (hU71_5 _ _ (by omega)).trans i100_4
      have i100_1 := (hU71_5 _ _ (by omega)).trans i100_1
      have i100_9 := (hU71_5 _ _ (by omega)).trans i100_9
      have hLy := hLy.fr2 hU71_5 hJ71_5 (fun lb j _ _ => by omega) (fun lb j _ _ => by omega)
      have hFr := hFr.tr (hU71_5.mono (P' := (fPt b)) (fun lb j h => by unfold fPt; omega))
      have hFj := hFj.tr (hJ71_5.mono (P' := (fPt b)) (fun lb j h => by unfold fPt; omega))
      refine lv_astore_n (lv' := [(3, .ref (G71.ad (b + 100))), (2, .int (nI ((rdTable (aY a) n).1))), (0, .ref (G71.ad 100)), (1, .int (nI n))]) hE.1 hE.2.1 dX10_table_74 rfl hl (by decide) rfl (fun ls hl => ?_)
      refine lv_aload_n hE.1 hE.2.1 dX10_table_75 rfl (lv_at hl 0 rfl) ?_
      refine rg_VV (As := []) (rest := []) hE hml hH mc_X10_84 (c_Tb_all l z G71 iv71 jv71 (b + 100) b (rdTable (aY a) n).2.1 hkt hTbn (by omega) (by omega) (by omega) hLy hn1 hn7 hn10 hn12 hn16 hTs hT2 hz10 hf2 hkT) (wb_100.1) (wb_100.2) (by decide) rfl ⟨Nat.le_of_ble_eq_true rfl, Nat.le_of_ble_eq_true rfl⟩ rfl hl.1 (by simp [Value.category]) dX10_table_76 ⟨by show 0 + 1 + 0 + 1 + 30 + 4 ≤ mc; omega, by show 0 + 6 + 0 + 17 + 81000 + 20 ≤ ms; omega⟩ (fun G76 iv76 jv76 H locs hp76 hH => ?_)
      obtain ⟨hS76_6, hTBd, hU76_6, hJ76_6⟩ := hp76
      have hl : lv_has ls 4 [(3, .ref (G76.ad (b + 100))), (2, .int (nI ((rdTable (aY a) n).1))), (0, .ref (G76.ad 100)), (1, .int (nI n))] := by rw [hS76_6.adm (wb_100.1), hS76_6.adm (w100.1)]; exact hl
      have w100 := And.intro (hS76_6.mem w100.1) (hS76_6.kd w100.2)
      have hPx := hPx.e hS76_6 (by omega)
      have w107 := w107.em hS76_6
      have w108 := w108.em hS76_6
      have hOu := hOu.e hS76_6 (by omega)
      have q100_0 := hS76_6.rv (by omega) q100_0
      have q100_2 := hS76_6.rv (by omega) q100_2
      have q100_3 := hS76_6.rv (by omega) q100_3
      have q100_5 := hS76_6.rv (by omega) q100_5
      have q100_10 := hS76_6.rv (by omega) q100_10
      have q100_7 := hS76_6.rv (by omega) q100_7
      have q100_8 := hS76_6.rv (by omega) q100_8
      have hTbs := (fun (k : Nat) (hk : k < T) => (hTbs k hk).e hS76_6 (hk5 k hk) (by unfold tL; omega) (by unfold bL; omega))
      have hPgs := (fun (k : Nat) (hk : k < P) => (hPgs k hk).e hS76_6 (by unfold gL; omega))
      have hLa := hLa.e hS76_6 (by omega)
      have hWh := hWh.e hS76_6 (by omega)
      have hkdF : G76.kd = kdF := by rw [EX_kd hS76_6]; exact hkdF
      have fN := hS76_6.nin fN (by omega)
      have hfN : ∀ x, b + 1001 ≤ x → x < b + 1040 → x ∉ G76.L := fun x h1 h2 => hS76_6.nin (hfN x (by omega) h2) (by omega)
      have hkT : ∀ i, i < 44 → G76.kd (b + 100 + i) = kTb i := by rw [EX_kd hS76_6]; exact hkT
      have hkN : ∀ i, i < 33 → G76.kd (b + 1000 + i) = kLa i := by rw [EX_kd hS76_6]; exact hkN
      have wb_100 := And.intro (hS76_6.mem wb_100.1) (hS76_6.kd wb_100.2)
      have hTbn := hTbn.e hS76_6 hm5 (by omega) (by omega)
      have hEX := hEX.tr (hS76_6.mono (c := 100) (d := 100000) (by omega) (by omega))
      have hR7 : ∀ k, k < T → G76.rv 107 k = some (tL k) := fun k hk => hS76_6.rv (by omega) (hR7 k hk)
      have hR8 : ∀ k, k < P → G76.rv 108 k = some (gL k) := fun k hk => hS76_6.rv (by omega) (hR8 k hk)
      have hBd : ∀ lb ∈ G76.L, lb < 1000 ∨ (10000 ≤ lb ∧ lb < b + 1100) ∨ (20000 ≤ lb ∧ lb < w + 100) := fun lb hm => (EX.cov hS76_6 hm).elim (hBd lb) (fun h => by omega)
      have i100_4 := (hU76_6 _ _ (by omega)).trans i100_4
      have i100_1 := (hU76_6 _ _ (by omega)).trans i100_1
      have i100_9 := (hU76_6 _ _ (by omega)).trans i100_9
      have hLy := hLy.fr2 hU76_6 hJ76_6 (fun lb j _ _ => by omega) (fun lb j _ _ => by omega)
      have hFr := hFr.tr (hU76_6.mono (P' := (fPt b)) (fun lb j h => by unfold fPt; omega))
      have hFj := hFj.tr (hJ76_6.mono (P' := (fPt b)) (fun lb j h => by unfold fPt; omega))
      refine lv_aload_n hE.1 hE.2.1 dX10_table_79 rfl (lv_at hl 2 rfl) ?_
      refine rg_getr hE hH cf_X10 fl_X10_26 rfl (w100.1) (w100.2) (v := 107) (q100_3) dX10_table_80 ?_
      refine lv_aload_n hE.1 hE.2.1 dX10_table_83 rfl (lv_at hl 2 rfl) ?_
      refine rg_geti hE hH cf_X10 fl_X10_30 rfl (w100.1) (w100.2) (v := nI T) (i100_4) dX10_table_84 ?_
      refine lv_aload_n hE.1 hE.2.1 dX10_table_87 rfl (lv_at hl 0 rfl) ?_
      refine rg_astr hE hH (Or.inr (Or.inr ⟨rfl, rfl⟩)) (w107.1) (w107.2.1) (by rw [w107.2.2]; omega) (v := b + 100) (wb_100.1) (wb_100.2) dX10_table_88 (fun H locs hH => ?_)
      have hX88_7 := GX.set (G := G76) (lb := 107) (k := T) (v := some (b + 100))
      have hS88_7 := EX.set (G := G76) (lb := 107) (k := T) (v := some (b + 100))
      have q107_T := setR_s (G := G76) (lb := 107) (k := T) (v := some (b + 100))
      generalize (G76.setR (up2 G76.rv 107 T (some (b + 100)))) = G88_7 at hH hX88_7 hS88_7 q107_T
      have hl : lv_has ls 4 [(3, .ref (G88_7.ad (b + 100))), (2, .int (nI ((rdTable (aY a) n).1))), (0, .ref (G88_7.ad 100)), (1, .int (nI n))] := by rw [hS88_7.adm (wb_100.1), hS88_7.adm (w100.1)]; exact hl
      have w100 := And.intro (hS88_7.mem w100.1) (hS88_7.kd w100.2)
      have hPx := hPx.e hS88_7 (by omega)
      have w107 := w107.em hS88_7
      have w108 := w108.em hS88_7
      have hOu := hOu.e hS88_7 (by omega)
      have q100_0 := hX88_7.rv List.not_mem_nil (fun h => absurd h.1 (by decide)) q100_0
      have q100_2 := hX88_7.rv List.not_mem_nil (fun h => absurd h.1 (by decide)) q100_2
      have q100_3 := hX88_7.rv List.not_mem_nil (fun h => absurd h.1 (by decide)) q100_3
      have q100_5 := hX88_7.rv List.not_mem_nil (fun h => absurd h.1 (by decide)) q100_5
      have q100_10 := hX88_7.rv List.not_mem_nil (fun h => absurd h.1 (by decide)) q100_10
      have q100_7 := hX88_7.rv List.not_mem_nil (fun h => absurd h.1 (by decide)) q100_7
      have q100_8 := hX88_7.rv List.not_mem_nil (fun h => absurd h.1 (by decide)) q100_8
      have hTbs := (fun (k : Nat) (hk : k < T) => (hTbs k hk).e hS88_7 (hk5 k hk) (by unfold tL; omega) (by unfold bL; omega))
      have hPgs := (fun (k : Nat) (hk : k < P) => (hPgs k hk).e hS88_7 (by unfold gL; omega))
      have hLa := hLa.e hS88_7 (by omega)
      have hWh := hWh.e hS88_7 (by omega)
      have hkdF : G88_7.kd = kdF := by rw [EX_kd hS88_7]; exact hkdF
      have fN := hS88_7.nin fN (by omega)
      have hfN : ∀ x, b + 1001 ≤ x → x < b + 1040 → x ∉ G88_7.L := fun x h1 h2 => hS88_7.nin (hfN x (Nat.le_trans (dle b (a := 1001) (c := 1001) (by decide)) h1) h2) (by omega)
      have hkT : ∀ i, i < 44 → G88_7.kd (b + 100 + i) = kTb i := by rw [EX_kd hS88_7]; exact hkT
      have hkN : ∀ i, i < 33 → G88_7.kd (b + 1000 + i) = kLa i := by rw [EX_kd hS88_7]; exact hkN
      have wb_100 := And.intro (hS88_7.mem wb_100.1) (hS88_7.kd wb_100.2)
      have hTbn := hTbn.e hS88_7 hm5 (by omega) (by omega)
      have hEX := hEX.tr (hS88_7.mono (c := 100) (d := 100000) (by decide) (by decide))
      have hR7 : ∀ k, k < T → G88_7.rv 107 k = some (tL k) := fun k hk => hX88_7.rv List.not_mem_nil (by omega) (hR7 k hk)
      have hR8 : ∀ k, k < P → G88_7.rv 108 k = some (gL k) := fun k hk => hX88_7.rv List.not_mem_nil (by omega) (hR8 k hk)
      have hBd : ∀ lb ∈ G88_7.L, lb < 1000 ∨ (10000 ≤ lb ∧ lb < b + 1100) ∨ (20000 ≤ lb ∧ lb < w + 100) := fun lb hm => (EX.cov hS88_7 hm).elim (hBd lb) (fun h => by omega)
      refine lv_aload_n hE.1 hE.2.1 dX10_table_89 rfl (lv_at hl 2 rfl) ?_
      refine lv_dup hE.1 hE.2.1 dX10_table_90 rfl ?_
      refine rg_geti hE hH cf_X10 fl_X10_30 rfl (w100.1) (w100.2) (v := nI T) (i100_4) dX10_table_91 ?_
      refine lv_iconst (v := nI 1) hE.1 hE.2.1 dX10_table_94 (by decide) ?_
      refine rn_iadd hE dX10_table_95 ?_
      refine rg_puti hE hH cf_X10 fl_X10_30 rfl fn_X10_4 (w100.1) (w100.2) (v := nI (T + 1)) dX10_table_96 (fun H locs hH => ?_)
      have hU96_8 : Fr iv76 (up2 iv76 100 4 (nI (T + 1))) (fun b0 j => b0 = 100 ∧ j = 4) := Fr.up Fr.rf ⟨rfl, rfl⟩
      have hJ96_8 : FrJ jv76 jv76 (fun b0 j => b0 = 100 ∧ j = 4) := FrJ.rf
      have i100_1 := (hU96_8 _ _ (by omega)).trans i100_1
      have i100_9 := (hU96_8 _ _ (by omega)).trans i100_9
      have hLy := hLy.fr2 hU96_8 hJ96_8 (fun lb j _ _ => by omega) (fun lb j _ _ => by omega)
      have hTBd := hTBd.fr hm5 hU96_8 (fun lb j _ _ => by omega)
      have hFr := hFr.tr (hU96_8.mono (P' := (fPt b)) (fun lb j h => by unfold fPt; omega))
      have hFj := hFj.tr (hJ96_8.mono (P' := (fPt b)) (fun lb j h => by unfold fPt; omega))
      have i100_4 : (up2 iv76 100 4 (nI (T + 1))) (100) 4 = nI (T + 1) := up2_s
      generalize up2 iv76 100 4 (nI (T + 1)) = iv96_8 at hH hFr hU96_8 i100_1 i100_9 hLy hTBd i100_4
      refine lv_aload_n hE.1 hE.2.1 dX10_table_99 rfl (lv_at hl 2 rfl) ?_
      refine rg_newO (ci := 1) hE hH (b + 1000) fN (hkN 0 (by decide)) cf_X1 ⟨RX1, TX1, rfl, (b1 86 rfl rfl), (b1 87 rfl rfl), (b1 4 rfl rfl)⟩ (by show 0 + 1 + 0 + 1 + 30 + 4 + 1 ≤ mc; omega) (by show 0 + 6 + 0 + 17 + 81000 + 20 + 5 ≤ ms; omega) dX10_table_100 (fun G100_9 H hX100_9 hln100_9 hrv100_9 hH => ?_)
      have hS100_9 := hX100_9.ex1 fN
      have wb_1000 : (b + 1000) ∈ G100_9.L ∧ G100_9.kd (b + 1000) = 1 := ⟨hX100_9.new (List.mem_singleton_self _), hX100_9.kd (hkN 0 (by decide))⟩
      have hl : lv_has ls 4 [(3, .ref (G100_9.ad (b + 100))), (2, .int (nI ((rdTable (aY a) n).1))), (0, .ref (G100_9.ad 100)), (1, .int (nI n))] := by rw [hS100_9.adm (wb_100.1), hS100_9.adm (w100.1)]; exact hl
      refine rg_st (st' := [.ref (G100_9.ad (b + 1000)), .ref (G100_9.ad 100)]) (by rw [hS100_9.adm (w100.1)]) ?_
      have w100 := And.intro (hS100_9.mem w100.1) (hS100_9.kd w100.2)
      have hPx := hPx.e hS100_9 (by omega)
      have w107 := w107.em hS100_9
      have w108 := w108.em hS100_9
      have hOu := hOu.e hS100_9 (by omega)
      have q100_0 := hS100_9.rv (by omega) q100_0
      have q100_2 := hS100_9.rv (by omega) q100_2
      have q100_3 := hS100_9.rv (by omega) q100_3
      have q100_5 := hS100_9.rv (by omega) q100_5
      have q100_10 := hS100_9.rv (by omega) q100_10
      have q100_7 := hS100_9.rv (by omega) q100_7
      have q100_8 := hS100_9.rv (by omega) q100_8
      have hTbs := (fun (k : Nat) (hk : k < T) => (hTbs k hk).e hS100_9 (hk5 k hk) (by unfold tL; omega) (by unfold bL; omega))
      have hPgs := (fun (k : Nat) (hk : k < P) => (hPgs k hk).e hS100_9 (by unfold gL; omega))
      have hLa := hLa.e hS100_9 (by omega)
      have hWh := hWh.e hS100_9 (by omega)
      have hkdF : G100_9.kd = kdF := by rw [EX_kd hS100_9]; exact hkdF
      have hfN : ∀ x, b + 1001 ≤ x → x < b + 1040 → x ∉ G100_9.L := fun x h1 h2 => hS100_9.nin (hfN x (Nat.le_trans (dle b (a := 1001) (c := 1001) (by decide)) h1) h2) (Or.inr (Nat.le_trans (dle b (a := 1001) (c := 1001) (by decide)) h1))
      have hkT : ∀ i, i < 44 → G100_9.kd (b + 100 + i) = kTb i := by rw [EX_kd hS100_9]; exact hkT
      have hkN : ∀ i, i < 33 → G100_9.kd (b + 1000 + i) = kLa i := by rw [EX_kd hS100_9]; exact hkN
      have wb_100 := And.intro (hS100_9.mem wb_100.1) (hS100_9.kd wb_100.2)
      have hTbn := hTbn.e hS100_9 hm5 (by omega) (by omega)
      have q107_T := hS100_9.rv (by omega) q107_T
      have hEX := hEX.tr (hS100_9.mono (c := 100) (d := 100000) (by omega) (by omega))
      have hR7 : ∀ k, k < T → G100_9.rv 107 k = some (tL k) := fun k hk => hS100_9.rv (by omega) (hR7 k hk)
      have hR8 : ∀ k, k < P → G100_9.rv 108 k = some (gL k) := fun k hk => hS100_9.rv (by omega) (hR8 k hk)
      have hBd : ∀ lb ∈ G100_9.L, lb < 1000 ∨ (10000 ≤ lb ∧ lb < b + 1100) ∨ (20000 ≤ lb ∧ lb < w + 100) := fun lb hm => (EX.cov hS100_9 hm).elim (hBd lb) (fun h => by omega)
      have hU100_9 : Fr iv96_8 (clr iv96_8 (b + 1000) 0) (fun b0 _ => b0 = b + 1000) := Fr.clr Fr.rf (fun _ => rfl)
      have hJ100_9 : FrJ jv76 (clr jv76 (b + 1000) 0) (fun b0 _ => b0 = b + 1000) := FrJ.clr FrJ.rf (fun _ => rfl)
      have i100_1 := (hU100_9 _ _ (by omega)).trans i100_1
      have i100_9 := (hU100_9 _ _ (by omega)).trans i100_9
      have hLy := hLy.fr2 hU100_9 hJ100_9 (fun lb j _ _ => by omega) (fun lb j _ _ => by omega)
      have hTBd := hTBd.fr hm5 hU100_9 (fun lb j _ _ => by omega)
      have i100_4 := (hU100_9 _ _ (by omega)).trans i100_4
      have hFr := hFr.tr (hU100_9.mono (P' := (fPt b)) (fun lb j h => by unfold fPt; omega))
      have hFj := hFj.tr (hJ100_9.mono (P' := (fPt b)) (fun lb j h => by unfold fPt; omega))
      generalize clr iv96_8 (b + 1000) 0 = iv100_9 at hH hFr hU100_9 i100_1 i100_9 hLy hTBd i100_4
      generalize clr jv76 (b + 1000) 0 = jv100_9 at hH hFj hJ100_9 hLy hTBd
      refine lv_dup hE.1 hE.2.1 dX10_table_103 rfl ?_
      refine rg_IV (As := []) (rest := [.ref (G100_9.ad (b + 1000)), .ref (G100_9.ad 100)]) hE hml hH mc_X10_44 (c_La_init l z G100_9 iv100_9 jv100_9 (b + 1000) wb_1000 hfN hkN) rfl ⟨Nat.le_of_ble_eq_true rfl, Nat.le_of_ble_eq_true rfl⟩ rfl hl.1 (by simp [Value.category]) dX10_table_104 ⟨by show 0 + 1 + 0 + 1 + 30 + 4 + 1 + 16 ≤ mc; omega, by show 0 + 6 + 0 + 17 + 81000 + 20 + 5 + 304 ≤ ms; omega⟩ (fun G104 iv104 jv104 H locs hp104 hH => ?_)
      obtain ⟨hS104_10, hLaN, hU104_10, hJ104_10⟩ := hp104
      have hl : lv_has ls 4 [(3, .ref (G104.ad (b + 100))), (2, .int (nI ((rdTable (aY a) n).1))), (0, .ref (G104.ad 100)), (1, .int (nI n))] := by rw [hS104_10.adm (wb_100.1), hS104_10.adm (w100.1)]; exact hl
      refine rg_st (st' := [.ref (G104.ad (b + 1000)), .ref (G104.ad 100)]) (by rw [hS104_10.adm (wb_1000.1), hS104_10.adm (w100.1)]) ?_
      have w100 := And.intro (hS104_10.mem w100.1) (hS104_10.kd w100.2)
      have hPx := hPx.e hS104_10 (by omega)
      have w107 := w107.em hS104_10
      have w108 := w108.em hS104_10
      have hOu := hOu.e hS104_10 (by omega)
      have q100_0 := hS104_10.rv (by omega) q100_0
      have q100_2 := hS104_10.rv (by omega) q100_2
      have q100_3 := hS104_10.rv (by omega) q100_3
      have q100_5 := hS104_10.rv (by omega) q100_5
      have q100_10 := hS104_10.rv (by omega) q100_10
      have q100_7 := hS104_10.rv (by omega) q100_7
      have q100_8 := hS104_10.rv (by omega) q100_8
      have hTbs := (fun (k : Nat) (hk : k < T) => (hTbs k hk).e hS104_10 (hk5 k hk) (by unfold tL; omega) (by unfold bL; omega))
      have hPgs := (fun (k : Nat) (hk : k < P) => (hPgs k hk).e hS104_10 (by unfold gL; omega))
      have hLa := hLa.e hS104_10 (by omega)
      have hWh := hWh.e hS104_10 (by omega)
      have hkdF : G104.kd = kdF := by rw [EX_kd hS104_10]; exact hkdF
      have hkT : ∀ i, i < 44 → G104.kd (b + 100 + i) = kTb i := by rw [EX_kd hS104_10]; exact hkT
      have hkN : ∀ i, i < 33 → G104.kd (b + 1000 + i) = kLa i := by rw [EX_kd hS104_10]; exact hkN
      have wb_100 := And.intro (hS104_10.mem wb_100.1) (hS104_10.kd wb_100.2)
      have hTbn := hTbn.e hS104_10 hm5 (by omega) (by omega)
      have q107_T := hS104_10.rv (by omega) q107_T
      have wb_1000 := And.intro (hS104_10.mem wb_1000.1) (hS104_10.kd wb_1000.2)
      have hEX := hEX.tr (hS104_10.mono (c := 100) (d := 100000) (by omega) (by omega))
      have hR7 : ∀ k, k < T → G104.rv 107 k = some (tL k) := fun k hk => hS104_10.rv (by omega) (hR7 k hk)
      have hR8 : ∀ k, k < P → G104.rv 108 k = some (gL k) := fun k hk => hS104_10.rv (by omega) (hR8 k hk)
      have hBd : ∀ lb ∈ G104.L, lb < 1000 ∨ (10000 ≤ lb ∧ lb < b + 1100) ∨ (20000 ≤ lb ∧ lb < w + 100) := fun lb hm => (EX.cov hS104_10 hm).elim (hBd lb) (fun h => by omega)
      have i100_1 := (hU104_10 _ _ (by omega)).trans i100_1
      have i100_9 := (hU104_10 _ _ (by omega)).trans i100_9
      have hLy := hLy.fr2 hU104_10 hJ104_10 (fun lb j _ _ => by omega) (fun lb j _ _ => by omega)
      have hTBd := hTBd.fr hm5 hU104_10 (fun lb j _ _ => by omega)
      have i100_4 := (hU104_10 _ _ (by omega)).trans i100_4
      have hFr := hFr.tr (hU104_10.mono (P' := (fPt b)) (fun lb j h => by unfold fPt; omega))
      have hFj := hFj.tr (hJ104_10.mono (P' := (fPt b)) (fun lb j h => by unfold fPt; omega))
      refine rg_putr hE hH cf_X10 fl_X10_45 rfl fn_X10_7 (w100.1) (w100.2) (v := b + 1000) (wb_1000.1) dX10_table_107 (fun H locs hH => ?_)
      have hX107_11 := GX.set (G := G104) (lb := 100) (k := 7) (v := some (b + 1000))
      have hS107_11 := EX.set (G := G104) (lb := 100) (k := 7) (v := some (b + 1000))
      have q100_7 := setR_s (G := G104) (lb := 100) (k := 7) (v := some (b + 1000))
      generalize (G104.setR (up2 G104.rv 100 7 (some (b + 1000)))) = G107_11 at hH hX107_11 hS107_11 q100_7
      have hl : lv_has ls 4 [(3, .ref (G107_11.ad (b + 100))), (2, .int (nI ((rdTable (aY a) n).1))), (0, .ref (G107_11.ad 100)), (1, .int (nI n))] := by rw [hS107_11.adm (wb_100.1), hS107_11.adm (w100.1)]; exact hl
      have w100 := And.intro (hS107_11.mem w100.1) (hS107_11.kd w100.2)
      have hPx := hPx.e hS107_11 (by omega)
      have w107 := w107.em hS107_11
      have w108 := w108.em hS107_11
      have hOu := hOu.e hS107_11 (by omega)
      have q100_0 := hX107_11.rv List.not_mem_nil (fun h => absurd h.2 (by decide)) q100_0
      have q100_2 := hX107_11.rv List.not_mem_nil (fun h => absurd h.2 (by decide)) q100_2
      have q100_3 := hX107_11.rv List.not_mem_nil (fun h => absurd h.2 (by decide)) q100_3
      have q100_5 := hX107_11.rv List.not_mem_nil (fun h => absurd h.2 (by decide)) q100_5
      have q100_10 := hX107_11.rv List.not_mem_nil (fun h => absurd h.2 (by decide)) q100_10
      have q100_8 := hX107_11.rv List.not_mem_nil (fun h => absurd h.2 (by decide)) q100_8
      have hTbs := (fun (k : Nat) (hk : k < T) => (hTbs k hk).e hS107_11 (hk5 k hk) (by unfold tL; omega) (by unfold bL; omega))
      have hPgs := (fun (k : Nat) (hk : k < P) => (hPgs k hk).e hS107_11 (by unfold gL; omega))
      have hLa := hLa.e hS107_11 (by omega)
      have hWh := hWh.e hS107_11 (by omega)
      have hkdF : G107_11.kd = kdF := by rw [EX_kd hS107_11]; exact hkdF
      have hkT : ∀ i, i < 44 → G107_11.kd (b + 100 + i) = kTb i := by rw [EX_kd hS107_11]; exact hkT
      have hkN : ∀ i, i < 33 → G107_11.kd (b + 1000 + i) = kLa i := by rw [EX_kd hS107_11]; exact hkN
      have wb_100 := And.intro (hS107_11.mem wb_100.1) (hS107_11.kd wb_100.2)
      have hTbn := hTbn.e hS107_11 hm5 (by omega) (by omega)
      have q107_T := hX107_11.rv List.not_mem_nil (fun h => absurd h.1 (by decide)) q107_T
      have wb_1000 := And.intro (hS107_11.mem wb_1000.1) (hS107_11.kd wb_1000.2)
      have hLaN := hLaN.e hS107_11 (by omega)
      have hEX := hEX.tr (hS107_11.mono (c := 100) (d := 100000) (by decide) (by decide))
      have hR7 : ∀ k, k < T → G107_11.rv 107 k = some (tL k) := fun k hk => hX107_11.rv List.not_mem_nil (by omega) (hR7 k hk)
      have hR8 : ∀ k, k < P → G107_11.rv 108 k = some (gL k) := fun k hk => hX107_11.rv List.not_mem_nil (by omega) (hR8 k hk)
      have hBd : ∀ lb ∈ G107_11.L, lb < 1000 ∨ (10000 ≤ lb ∧ lb < b + 1100) ∨ (20000 ≤ lb ∧ lb < w + 100) := fun lb hm => (EX.cov hS107_11 hm).elim (hBd lb) (fun h => by omega)
      refine lv_aload_n hE.1 hE.2.1 dX10_table_110 rfl (lv_at hl 2 rfl) ?_
      refine rg_geti hE hH cf_X10 fl_X10_30 rfl (w100.1) (w100.2) (v := nI (T + 1)) (i100_4) dX10_table_111 ?_
      refine lv_iconst (v := nI 1) hE.1 hE.2.1 dX10_table_114 (by decide) ?_
      refine rn_isub hE dX10_table_115 (by omega) ?_
      refine rn_as (v' := nI T) (rfl) ?_
      refine W.widen (k := mc) (n := ms) (by show 0 + 1 + 0 + 1 + 30 + 4 + 1 + 16 ≤ mc; omega) (by show 0 + 6 + 0 + 17 + 81000 + 20 + 5 + 304 ≤ ms; omega) ?_
      exact vx_ret (rg_iret hE hr rfl hlk hH ⟨hEX, ⟨by rw [hsp, if_neg h6, if_neg (by omega)]; rfl, by rw [hsp, if_neg h6, if_neg (by omega), ← hTe]; rfl, by rw [hsp, if_neg h6, if_neg (by omega)]; exact stT hX0 hTe hPe hbe hwe (by omega) ⟨w100, hPx, w107, w108, hOu, q100_0, q100_2, q100_3, q100_5, q100_10⟩ hLaN hWh q100_7 q100_8 hR7 q107_T hR8 hTbs hTbn hPgs hFr hFj i100_1 i100_4 i100_9 hLy hTBd hkt hW (fun lb hm => by have := hBd lb hm; omega) hkdF⟩, hFr.mono (fun lb j h => by unfold fPt at h; omega), hFj.mono (fun lb j h => by unfold fPt at h; omega)⟩ dX10_table_116)
    · have hrn : (rdTable (aY a) n).1 ≠ 0 := by omega
      refine lv_aload_n hE.1 hE.2.1 dX10_table_48 rfl (lv_at hl 1 rfl) ?_
      refine lv_aload_n hE.1 hE.2.1 dX10_table_49 rfl (lv_at hl 1 rfl) ?_
      refine rg_getr hE hH cf_X10 fl_X10_20 rfl (w100.1) (w100.2) (v := 102) (q100_2) dX10_table_50 ?_
      refine rg_VI (As := []) (rest := [.ref (G.ad 100)]) hE hml hH mc_X10_77 (c_Pa_place l z G hPx iv40 jv40 (aY a) n _ hLR) (hPx.1.1) (hPx.1.2) (by decide) rfl ⟨Nat.le_of_ble_eq_true rfl, Nat.le_of_ble_eq_true rfl⟩ rfl hl.1 (by simp [Value.category]) dX10_table_53 ⟨by show 0 + 1 + 0 + 0 ≤ mc; omega, by show 0 + 6 + 0 + 0 ≤ ms; omega⟩ (fun r53 G53 iv53 jv53 H locs hp53 hH => ?_)
      obtain ⟨rfl, rfl, rfl, rfl⟩ := hp53
      refine rg_puti hE hH cf_X10 fl_X10_56 rfl fn_X10_9 (w100.1) (w100.2) (v := nI (tb (rdTable (aY a) n).2.2)) dX10_table_56 (fun H locs hH => ?_)
      have hU56_4 : Fr iv40 (up2 iv40 100 9 (nI (tb (rdTable (aY a) n).2.2))) (fun b0 j => b0 = 100 ∧ j = 9) := Fr.up Fr.rf ⟨rfl, rfl⟩
      have hJ56_4 : FrJ jv40 jv40 (fun b0 j => b0 = 100 ∧ j = 9) := FrJ.rf
      have i100_4 := (hU56_4 _ _ (by omega)).trans i100_4
      have i100_1 := (hU56_4 _ _ (by omega)).trans i100_1
      have hFr := hFr.tr (hU56_4.mono (P' := (fPt b)) (fun lb j h => by unfold fPt; omega))
      have hFj := hFj.tr (hJ56_4.mono (P' := (fPt b)) (fun lb j h => by unfold fPt; omega))
      have i100_9 : (up2 iv40 100 9 (nI (tb (rdTable (aY a) n).2.2))) (100) 9 = nI (tb (rdTable (aY a) n).2.2) := up2_s
      generalize up2 iv40 100 9 (nI (tb (rdTable (aY a) n).2.2)) = iv56_4 at hH hFr hU56_4 i100_4 i100_1 i100_9
      refine lv_iconst (v := -1) hE.1 hE.2.1 dX10_table_59 (by decide) ?_
      refine lv_iload_n hE.1 hE.2.1 dX10_table_60 rfl (lv_at hl 0 rfl) ?_
      refine lv_isub hE.1 hE.2.1 dX10_table_61 ?_
      refine rn_as (v' := -1 - nI (rdTable (aY a) n).1) (rfl) ?_
      refine W.widen (k := mc) (n := ms) (by show 0 + 1 + 0 + 0 ≤ mc; omega) (by show 0 + 6 + 0 + 0 ≤ ms; omega) ?_
      exact vx_ret (rg_iret hE hr rfl hlk hH ⟨hEX, ⟨by rw [hsp, if_neg h6, if_pos hrn]; rfl, by rw [hsp, if_neg h6, if_pos hrn]; rfl, by rw [hsp, if_neg h6, if_pos hrn]; exact stK hX0 hTe hbe hFr hFj i100_1 i100_4 i100_9⟩, hFr.mono (fun lb j h => by unfold fPt at h; omega), hFj.mono (fun lb j h => by unfold fPt at h; omega)⟩ dX10_table_62)
  · have h6 : (aT a).length = 6 := by omega
    refine lv_bipush (v := (-9)) hE.1 hE.2.1 dX10_table_24 (by decide) ?_
    refine W.widen (k := mc) (n := ms) (by show 0 + 1 ≤ mc; omega) (by show 0 + 6 ≤ ms; omega) ?_
    exact vx_ret (rg_iret hE hr rfl hlk hH ⟨hEX, ⟨by rw [hsp, if_pos h6]; rfl, by rw [hsp, if_pos h6]; rfl, by rw [hsp, if_pos h6]; exact stK hX0 hTe hbe hFr hFj i100_1 i100_4 i100_9⟩, hFr.mono (fun lb j h => by unfold fPt at h; omega), hFj.mono (fun lb j h => by unfold fPt at h; omega)⟩ dX10_table_26)
