set_option maxRecDepth 100000 in
set_option maxHeartbeats 4000000 in
theorem c_x_program (l : Launch) (z : ZK) (hlt : l.stackTraces = false) (G : GW) (iv : IV) (jv : JV) (a : AS) (hX : CSt G iv jv a) (y x : Int32) (mc ms : Nat) (hmc : 2 + 10 * gNew a y x ≤ mc) (hms : 12 + 700 * gNew a y x ≤ ms) : cXI l z yX10_program cX10_program 6 (some .int) 9 240 mc ms [.ref (G.ad 100), .int (y), .int (x)] G iv jv (fun r G' iv' jv' => EX G G' 100 100000 ∧ ((spProgram a y x).1 = 0 ∧ r = (spProgram a y x).2.1 ∧ CSt G' iv' jv' (spProgram a y x).2.2) ∧ Fr iv iv' (fun lb _ => 100 ≤ lb) ∧ FrJ jv jv' (fun lb _ => 100 ≤ lb)) (fun E G' iv' jv' => G = G' ∧ iv = iv' ∧ jv = jv' ∧ ((E = nNSE ∧ spProgram a y x = no 1 a) ∨ (E = nIAE ∧ spProgram a y x = no 2 a))) := by
  intro sz
  refine rx_entry rfl (Nat.le_of_ble_eq_true rfl) ?_
  intro pq eq sq mq bq methq cq ls hE hr hlk hml hnm hl hsz hxt hH
  have hl : lv_has ls 6 [(0, .ref (G.ad 100)), (1, .int (y)), (2, .int (x))] := hl
  have hX0 := hX
  obtain ⟨⟨w100, hPx, w107, w108, hOu, q100_0, q100_2, q100_3, q100_5, q100_10⟩, ⟨hLa, hWh, q100_7, q100_8⟩, ⟨tp1, tp2, tp3, tp4⟩, hfa, ⟨tc1, tc2, tc3⟩, ⟨pc1, pc2, pc3⟩, hO, ⟨hBd0, hkdF⟩⟩ := hX
  obtain ⟨T, hTe⟩ : ∃ T, T = (aT a).length := ⟨_, rfl⟩
  obtain ⟨P, hPe⟩ : ∃ P, P = (aP a).length := ⟨_, rfl⟩
  obtain ⟨b, hbe⟩ : ∃ b, b = bL T := ⟨_, rfl⟩
  obtain ⟨w, hwe⟩ : ∃ w, w = wL P := ⟨_, rfl⟩
  rw [← hTe, ← hbe] at hLa q100_7
  rw [← hTe] at tc1 tc2 tc3
  rw [← hPe] at pc1 pc2 pc3
  rw [← hTe, ← hPe, ← hbe, ← hwe] at hBd0
  have hbv : b = 10000 + 1000 * T := hbe
  have hwv : w = 20000 + 1000 * P := hwe
  have hR7 : ∀ k, k < T → G.rv 107 k = some (tL k) := fun k hk => (tc3 k hk).1
  have hR8 : ∀ k, k < P → G.rv 108 k = some (gL k) := fun k hk => (pc3 k hk).1
  have hk5 : ∀ k, k < T → tm (aTb a k) ≤ 5 := fun k hk => (tc3 k hk).2.2.2.2.1.2.1
  have hTbs : ∀ k, k < T → isTb G (tL k) (bL k) (tm (aTb a k)) (tC (aTb a k)) (tR (aTb a k)) (tT (aTb a k)) := fun k hk => (tc3 k hk).2.1
  have hPgs : ∀ k, k < P → isPg G (gL k) (tL (aPg a k).1) (tC (aTb a (aPg a k).1)) := fun k hk => (pc3 k hk).2.2.1
  have hBd : ∀ lb ∈ G.L, lb < 1000 ∨ (10000 ≤ lb ∧ lb < b + 100) ∨ (20000 ≤ lb ∧ lb < w + 1100) := fun lb hm => by have := hBd0 lb hm; omega
  have f100 : w + 100 ∉ G.L := fun hm => by have := hBd0 _ hm; omega
  have f101 : w + 101 ∉ G.L := fun hm => by have := hBd0 _ hm; omega
  have hkP : G.kd (w + 100) = 5 := by rw [hkdF, hwv]; exact kdF_P.1
  have hkQ : G.kd (w + 101) = 13 := by rw [hkdF, hwv]; exact kdF_P.2
  have i100_1 := tp1
  have i100_6 := pc1
  have i100_9 := hfa
  have hEX : EX G G 100 100000 := EX.rf
  have hFr : Fr iv iv (fPp w) := Fr.rf
  have hFj : FrJ jv jv (fPp w) := FrJ.rf
  refine lv_aload_n hE.1 hE.2.1 dX10_program_0 rfl (lv_at hl 0 rfl) ?_
  refine lv_iload_n hE.1 hE.2.1 dX10_program_1 rfl (lv_at hl 1 rfl) ?_
  refine rx_VR (As := [.int (y)]) (rest := []) hE hml hH mc_X10_87 (c_x_tab l z hlt G iv jv a hX0 y) (w100.1) (w100.2) (by decide) rfl ⟨Nat.le_of_ble_eq_true rfl, Nat.le_of_ble_eq_true rfl⟩ rfl hl.1 (by simp [Value.category]) dX10_program_2 ⟨by show 0 + 1 ≤ mc; omega, by show 0 + 6 ≤ ms; omega⟩ (fun E ce q G' iv' jv' H locs hpx hH hce hcv hcl => rx_out hE hH hxt hlk hce hcv hcl (by show 0 + 1 ≤ mc; omega) (by show 0 + 6 ≤ ms; omega) (by obtain ⟨rfl, rfl, rfl, rfl, hcx⟩ := hpx; exact ⟨rfl, rfl, rfl, Or.inl ⟨rfl, by rw [spProgram, onK_f hcx]⟩⟩)) (fun r2 G2 iv2 jv2 H locs hp2 hH => ?_)
  obtain ⟨rfl, rfl, rfl, hin2, rfl⟩ := hp2
  obtain ⟨t, ht, rfl⟩ := inI_of (n := (aT a).length) (by omega) hin2
  rw [cl_nI (by omega)]
  have ht2 : t < T := by omega
  have hkt := (tc3 t ht2).2.2.2.2.1
  have hW := (tc3 t ht2).2.2.2.2.2
  have hLy0 := (tc3 t ht2).2.2.1
  have hTd0 := (tc3 t ht2).2.2.2.1
  have hC4 := hkt.2.2.2.1
  refine lv_astore_n (lv' := [(3, .ref (G.ad (tL t))), (0, .ref (G.ad 100)), (1, .int (nI t)), (2, .int (x))]) hE.1 hE.2.1 dX10_program_5 rfl hl (by decide) rfl (fun ls hl => ?_)
  refine lv_aload_n hE.1 hE.2.1 dX10_program_6 rfl (lv_at hl 1 rfl) ?_
  refine lv_iload_n hE.1 hE.2.1 dX10_program_7 rfl (lv_at hl 3 rfl) ?_
  refine rx_VV (As := [.int (x)]) (rest := []) hE hml hH mc_X10_70 (c_x_bytes l z hlt G iv jv a hX0 x) (w100.1) (w100.2) (by decide) rfl ⟨Nat.le_of_ble_eq_true rfl, Nat.le_of_ble_eq_true rfl⟩ rfl hl.1 (by simp [Value.category]) dX10_program_8 ⟨by show 0 + 1 + 1 ≤ mc; omega, by show 0 + 6 + 6 ≤ ms; omega⟩ (fun E ce q G' iv' jv' H locs hpx hH hce hcv hcl => rx_out hE hH hxt hlk hce hcv hcl (by show 0 + 1 + 1 ≤ mc; omega) (by show 0 + 6 + 6 ≤ ms; omega) (by obtain ⟨rfl, rfl, rfl, rfl, hcx⟩ := hpx; exact ⟨rfl, rfl, rfl, Or.inr ⟨rfl, by rw [spProgram, onK_t ht (by omega), onK_f hcx]⟩⟩)) (fun G8 iv8 jv8 H locs hp8 hH => ?_)
  obtain ⟨rfl, rfl, rfl, hq8⟩ := hp8
  obtain ⟨n, hn, rfl⟩ := inI_of (by omega) hq8
  have hsp : spProgram a (nI t) (nI n) = (if (aP a).length = 12 then ok (-9) (0, aY a, -1, aT a, aP a, aO a) else if (rdProg (aY a) n (aTb a t)).1 ≠ 0 then ok (-1 - nI (rdProg (aY a) n (aTb a t)).1) (0, aY a, nI (tb (rdProg (aY a) n (aTb a t)).2.2), aT a, aP a, aO a) else ok (nI (aP a).length) (0, aY a, -1, aT a, aP a ++ [(t, (rdProg (aY a) n (aTb a t)).2.1)], aO a)) := by rw [spProgram, onK_t ht (by omega), onK_t hn (by omega)]
  refine lv_aload_n hE.1 hE.2.1 dX10_program_11 rfl (lv_at hl 1 rfl) ?_
  refine lv_iconst (v := nI 0) hE.1 hE.2.1 dX10_program_12 (by decide) ?_
  refine rg_puti hE hH cf_X10 fl_X10_13 rfl fn_X10_1 (w100.1) (w100.2) (v := nI 0) dX10_program_13 (fun H locs hH => ?_)
  have hU13_1 : Fr iv (up2 iv 100 1 (nI 0)) (fun b0 j => b0 = 100 ∧ j = 1) := Fr.up Fr.rf ⟨rfl, rfl⟩
  have hJ13_1 : FrJ jv jv (fun b0 j => b0 = 100 ∧ j = 1) := FrJ.rf
  have i100_6 := (hU13_1 _ _ (by omega)).trans i100_6
  have i100_9 := (hU13_1 _ _ (by omega)).trans i100_9
  have hFr := hFr.tr (hU13_1.mono (P' := (fPp w)) (fun lb j h => by unfold fPp; omega))
  have hFj := hFj.tr (hJ13_1.mono (P' := (fPp w)) (fun lb j h => by unfold fPp; omega))
  have i100_1 : (up2 iv 100 1 (nI 0)) (100) 1 = nI 0 := up2_s
  generalize up2 iv 100 1 (nI 0) = iv13_1 at hH hFr hU13_1 i100_6 i100_9 i100_1
  refine lv_aload_n hE.1 hE.2.1 dX10_program_16 rfl (lv_at hl 1 rfl) ?_
  refine lv_iconst (v := -1) hE.1 hE.2.1 dX10_program_17 (by decide) ?_
  refine rg_puti hE hH cf_X10 fl_X10_56 rfl fn_X10_9 (w100.1) (w100.2) (v := -1) dX10_program_18 (fun H locs hH => ?_)
  have hU18_2 : Fr iv13_1 (up2 iv13_1 100 9 (-1)) (fun b0 j => b0 = 100 ∧ j = 9) := Fr.up Fr.rf ⟨rfl, rfl⟩
  have hJ18_2 : FrJ jv jv (fun b0 j => b0 = 100 ∧ j = 9) := FrJ.rf
  have i100_6 := (hU18_2 _ _ (by omega)).trans i100_6
  have i100_1 := (hU18_2 _ _ (by omega)).trans i100_1
  have hFr := hFr.tr (hU18_2.mono (P' := (fPp w)) (fun lb j h => by unfold fPp; omega))
  have hFj := hFj.tr (hJ18_2.mono (P' := (fPp w)) (fun lb j h => by unfold fPp; omega))
  have i100_9 : (up2 iv13_1 100 9 (-1)) (100) 9 = -1 := up2_s
  generalize up2 iv13_1 100 9 (-1) = iv18_2 at hH hFr hU18_2 i100_6 i100_1 i100_9
  refine lv_aload_n hE.1 hE.2.1 dX10_program_21 rfl (lv_at hl 1 rfl) ?_
  refine rg_geti hE hH cf_X10 fl_X10_39 rfl (w100.1) (w100.2) (v := nI P) (i100_6) dX10_program_22 ?_
  refine lv_bipush (v := nI 12) hE.1 hE.2.1 dX10_program_25 (by decide) ?_
  refine rn_icmp_lt (tgt := 33) hE dX10_program_27 (by decide) (by omega) (by omega) (fun c27 => ?_) (fun c27 => ?_)
  · have h6 : ¬ (aP a).length = 12 := by omega
    refine lv_aload_n hE.1 hE.2.1 dX10_program_33 rfl (lv_at hl 1 rfl) ?_
    refine rg_getr hE hH cf_X10 fl_X10_20 rfl (w100.1) (w100.2) (v := 102) (q100_2) dX10_program_34 ?_
    refine lv_aload_n hE.1 hE.2.1 dX10_program_37 rfl (lv_at hl 1 rfl) ?_
    refine rg_getr hE hH cf_X10 fl_X10_9 rfl (w100.1) (w100.2) (v := 101) (q100_0) dX10_program_38 ?_
    refine lv_iload_n hE.1 hE.2.1 dX10_program_41 rfl (lv_at hl 3 rfl) ?_
    refine lv_aload_n hE.1 hE.2.1 dX10_program_42 rfl (lv_at hl 0 rfl) ?_
    refine rg_getr hE hH cf_X7 fl_X10_91 rfl ((hTbs t ht2).1.1) ((hTbs t ht2).1.2) (v := bL t) ((hTbs t ht2).2.2.2.2.2.2.2.2.2.2.2.2.1) dX10_program_43 ?_
    refine lv_aload_n hE.1 hE.2.1 dX10_program_46 rfl (lv_at hl 1 rfl) ?_
    refine rg_getr hE hH cf_X10 fl_X10_52 rfl (w100.1) (w100.2) (v := 20000) (q100_8) dX10_program_47 ?_
    refine rg_VI (As := [.ref (G.ad 101), .int (nI n), .ref (G.ad (bL t)), .ref (G.ad 20000)]) (rest := []) hE hml hH mc_X10_92 (c_Pa_prog l z G hPx iv18_2 jv (aY a) n ⟨by omega, fun k hk => (hFr _ _ (by unfold fPp; omega)).trans (tp3 k (by omega)), fun k hk => tp4 k (by omega)⟩ (bL t) (hTbs t ht2).2.1 (by unfold bL; omega) (aTb a t) (hLy0.fr2 hFr hFj (fun lb j h1 h2 => by unfold fPp; unfold bL at h1 h2; omega) (fun lb j h1 h2 => by unfold fPp; unfold bL at h1 h2; omega)) hW 20000 hWh (by omega) (by unfold bL; omega)) (hPx.1.1) (hPx.1.2) (by decide) rfl ⟨Nat.le_of_ble_eq_true rfl, Nat.le_of_ble_eq_true rfl⟩ rfl hl.1 (by simp [Value.category]) dX10_program_50 ⟨by show 0 + 1 + 1 + 0 ≤ mc; omega, by show 0 + 6 + 6 + 0 ≤ ms; omega⟩ (fun r50 G50 iv50 jv50 H locs hp50 hH => ?_)
    obtain ⟨rfl, rfl, hLR, hWcF, hU50_3, hJ50_3⟩ := hp50
    have hU50_3 := hU50_3.mono (P' := fun lb j => (102 ≤ lb ∧ lb ≤ 106) ∨ (20000 ≤ lb ∧ lb < 20004)) (fun lb j h => by simp only [pT3] at h; omega)
    have hJ50_3 := hJ50_3.mono (P' := fun lb j => (102 ≤ lb ∧ lb ≤ 106) ∨ (20000 ≤ lb ∧ lb < 20004)) (fun lb j h => by simp only [qT3] at h; omega)
    have i100_6 := (hU50_3 _ _ (by omega)).trans i100_6
    have i100_1 := (hU50_3 _ _ (by omega)).trans i100_1
    have i100_9 := (hU50_3 _ _ (by omega)).trans i100_9
    have hFr := hFr.tr (hU50_3.mono (P' := (fPp w)) (fun lb j h => by unfold fPp; omega))
    have hFj := hFj.tr (hJ50_3.mono (P' := (fPp w)) (fun lb j h => by unfold fPp; omega))
    have hrc : (rdProg (aY a) n (aTb a t)).1 ≤ 4 := rdProg_c
    refine lv_istore (lv' := [(4, .int (nI ((rdProg (aY a) n (aTb a t)).1))), (3, .ref (G.ad (tL t))), (0, .ref (G.ad 100)), (1, .int (nI t)), (2, .int (nI n))]) hE.1 hE.2.1 dX10_program_53 hl (by decide) rfl (fun ls hl => ?_)
    refine lv_iload hE.1 hE.2.1 dX10_program_55 (lv_at hl 0 rfl) ?_
    refine rn_if_eq (tgt := 76) hE dX10_program_57 (by decide) (by omega) (fun c57 => ?_) (fun c57 => ?_)
    · have hr0 : (rdProg (aY a) n (aTb a t)).1 = 0 := by omega
      have hWc := hWcF hr0
      have hgk := rdProg_ok (B := aY a) (n := n) (by omega) hW hr0
      have hnw : gNew a (nI t) (nI n) = 1 := by unfold gNew; rw [hsp, if_neg h6, if_neg (by omega)]; show (aP a ++ [_]).length - _ = 1; rw [List.length_append, List.length_singleton]; omega
      rw [hnw] at hmc hms
      have hm5 := hkt.2.1
      refine rg_newO (ci := 5) hE hH (w + 100) f100 hkP cf_X5 ⟨RX5, TX5, rfl, (b1 84 rfl rfl), (b4 58 rfl rfl), (b1 23 rfl rfl)⟩ (by show 0 + 1 + 1 + 0 + 1 ≤ mc; omega) (by show 0 + 6 + 6 + 0 + 2 ≤ ms; omega) dX10_program_76 (fun G76_4 H hX76_4 hln76_4 hrv76_4 hH => ?_)
      have hS76_4 := hX76_4.ex1 f100
      have ww_100 : (w + 100) ∈ G76_4.L ∧ G76_4.kd (w + 100) = 5 := ⟨hX76_4.new (List.mem_singleton_self _), hX76_4.kd hkP⟩
      have hl : lv_has ls 6 [(4, .int (nI ((rdProg (aY a) n (aTb a t)).1))), (3, .ref (G76_4.ad (tL t))), (0, .ref (G76_4.ad 100)), (1, .int (nI t)), (2, .int (nI n))] := by rw [hS76_4.adm ((hTbs t ht2).1.1), hS76_4.adm (w100.1)]; exact hl
      have w100 := And.intro (hS76_4.mem w100.1) (hS76_4.kd w100.2)
      have hPx := hPx.e hS76_4 (by omega)
      have w107 := w107.em hS76_4
      have w108 := w108.em hS76_4
      have hOu := hOu.e hS76_4 (by omega)
      have q100_0 := hS76_4.rv (by omega) q100_0
      have q100_2 := hS76_4.rv (by omega) q100_2
      have q100_3 := hS76_4.rv (by omega) q100_3
      have q100_5 := hS76_4.rv (by omega) q100_5
      have q100_10 := hS76_4.rv (by omega) q100_10
      have q100_7 := hS76_4.rv (by omega) q100_7
      have q100_8 := hS76_4.rv (by omega) q100_8
      have hTbs := (fun (k : Nat) (hk : k < T) => (hTbs k hk).e hS76_4 (hk5 k hk) (by unfold tL; omega) (by unfold bL; omega))
      have hPgs := (fun (k : Nat) (hk : k < P) => (hPgs k hk).e hS76_4 (by unfold gL; omega))
      have hLa := hLa.e hS76_4 (by omega)
      have hWh := hWh.e hS76_4 (by omega)
      have hkdF : G76_4.kd = kdF := by rw [EX_kd hS76_4]; exact hkdF
      have f101 := hS76_4.nin f101 (Or.inr (dle w (a := 101) (c := 101) (by decide)))
      have hkP : G76_4.kd (w + 100) = 5 := by rw [EX_kd hS76_4]; exact hkP
      have hkQ : G76_4.kd (w + 101) = 13 := by rw [EX_kd hS76_4]; exact hkQ
      have hEX := hEX.tr (hS76_4.mono (c := 100) (d := 100000) (by omega) (by omega))
      have hR7 : ∀ k, k < T → G76_4.rv 107 k = some (tL k) := fun k hk => hS76_4.rv (by omega) (hR7 k hk)
      have hR8 : ∀ k, k < P → G76_4.rv 108 k = some (gL k) := fun k hk => hS76_4.rv (by omega) (hR8 k hk)
      have hBd : ∀ lb ∈ G76_4.L, lb < 1000 ∨ (10000 ≤ lb ∧ lb < b + 100) ∨ (20000 ≤ lb ∧ lb < w + 1100) := fun lb hm => (EX.cov hS76_4 hm).elim (hBd lb) (fun h => by omega)
      have hU76_4 : Fr iv50 (clr iv50 (w + 100) 0) (fun b0 _ => b0 = w + 100) := Fr.clr Fr.rf (fun _ => rfl)
      have hJ76_4 : FrJ jv50 (clr jv50 (w + 100) 0) (fun b0 _ => b0 = w + 100) := FrJ.clr FrJ.rf (fun _ => rfl)
      have i100_6 := (hU76_4 _ _ (by omega)).trans i100_6
      have i100_1 := (hU76_4 _ _ (by omega)).trans i100_1
      have i100_9 := (hU76_4 _ _ (by omega)).trans i100_9
      have hWc := hWc.fr hm5 hU76_4 (fun lb j _ _ => by omega)
      have hFr := hFr.tr (hU76_4.mono (P' := (fPp w)) (fun lb j h => by unfold fPp; omega))
      have hFj := hFj.tr (hJ76_4.mono (P' := (fPp w)) (fun lb j h => by unfold fPp; omega))
      generalize clr iv50 (w + 100) 0 = iv76_4 at hH hFr hU76_4 i100_6 i100_1 i100_9 hWc
      generalize clr jv50 (w + 100) 0 = jv76_4 at hH hFj hJ76_4 hWc
      refine lv_dup hE.1 hE.2.1 dX10_program_79 rfl ?_
      refine lv_aload_n hE.1 hE.2.1 dX10_program_80 rfl (lv_at hl 1 rfl) ?_
      refine rg_IV (As := [.ref (G76_4.ad (tL t))]) (rest := [.ref (G76_4.ad (w + 100))]) hE hml hH mc_X10_96 (c_Pg_init l z G76_4 iv76_4 jv76_4 (w + 100) (tL t) (aTb a t) hkt ww_100 (hTbs t ht2).1 f101 hkQ (hTd0.fr (hk5 t ht2) hFr (fun lb j h1 h2 => by unfold fPp; unfold tL at h1 h2; omega)).1 (by unfold tL; omega)) rfl ⟨Nat.le_of_ble_eq_true rfl, Nat.le_of_ble_eq_true rfl⟩ rfl hl.1 (by simp [Value.category]) dX10_program_81 ⟨by show 0 + 1 + 1 + 0 + 1 + 1 ≤ mc; omega, by show 0 + 6 + 6 + 0 + 2 + 400 ≤ ms; omega⟩ (fun G81 iv81 jv81 H locs hp81 hH => ?_)
      obtain ⟨hS81_5, hPgn, hU81_5, hJ81_5⟩ := hp81
      have hl : lv_has ls 6 [(4, .int (nI ((rdProg (aY a) n (aTb a t)).1))), (3, .ref (G81.ad (tL t))), (0, .ref (G81.ad 100)), (1, .int (nI t)), (2, .int (nI n))] := by rw [hS81_5.adm ((hTbs t ht2).1.1), hS81_5.adm (w100.1)]; exact hl
      refine rg_st (st' := [.ref (G81.ad (w + 100))]) (by rw [hS81_5.adm (ww_100.1)]) ?_
      have w100 := And.intro (hS81_5.mem w100.1) (hS81_5.kd w100.2)
      have hPx := hPx.e hS81_5 (by omega)
      have w107 := w107.em hS81_5
      have w108 := w108.em hS81_5
      have hOu := hOu.e hS81_5 (by omega)
      have q100_0 := hS81_5.rv (by omega) q100_0
      have q100_2 := hS81_5.rv (by omega) q100_2
      have q100_3 := hS81_5.rv (by omega) q100_3
      have q100_5 := hS81_5.rv (by omega) q100_5
      have q100_10 := hS81_5.rv (by omega) q100_10
      have q100_7 := hS81_5.rv (by omega) q100_7
      have q100_8 := hS81_5.rv (by omega) q100_8
      have hTbs := (fun (k : Nat) (hk : k < T) => (hTbs k hk).e hS81_5 (hk5 k hk) (by unfold tL; omega) (by unfold bL; omega))
      have hPgs := (fun (k : Nat) (hk : k < P) => (hPgs k hk).e hS81_5 (by unfold gL; omega))
      have hLa := hLa.e hS81_5 (by omega)
      have hWh := hWh.e hS81_5 (by omega)
      have hkdF : G81.kd = kdF := by rw [EX_kd hS81_5]; exact hkdF
      have hkP : G81.kd (w + 100) = 5 := by rw [EX_kd hS81_5]; exact hkP
      have hkQ : G81.kd (w + 101) = 13 := by rw [EX_kd hS81_5]; exact hkQ
      have ww_100 := And.intro (hS81_5.mem ww_100.1) (hS81_5.kd ww_100.2)
      have hEX := hEX.tr (hS81_5.mono (c := 100) (d := 100000) (by omega) (by omega))
      have hR7 : ∀ k, k < T → G81.rv 107 k = some (tL k) := fun k hk => hS81_5.rv (by omega) (hR7 k hk)
      have hR8 : ∀ k, k < P → G81.rv 108 k = some (gL k) := fun k hk => hS81_5.rv (by omega) (hR8 k hk)
      have hBd : ∀ lb ∈ G81.L, lb < 1000 ∨ (10000 ≤ lb ∧ lb < b + 100) ∨ (20000 ≤ lb ∧ lb < w + 1100) := fun lb hm => (EX.cov hS81_5 hm).elim (hBd lb) (fun h => by omega)
      have i100_6 := (hU81_5 _ _ (by omega)).trans i100_6
      have i100_1 := (hU81_5 _ _ (by omega)).trans i100_1
      have i100_9 := (hU81_5 _ _ (by omega)).trans i100_9
      have hWc := hWc.fr hm5 hU81_5 (fun lb j _ _ => by omega)
      have hFr := hFr.tr (hU81_5.mono (P' := (fPp w)) (fun lb j h => by unfold fPp; omega))
      have hFj := hFj.tr (hJ81_5.mono (P' := (fPp w)) (fun lb j h => by unfold fPp; omega))
      refine lv_astore (lv' := [(5, .ref (G81.ad (w + 100))), (4, .int (nI ((rdProg (aY a) n (aTb a t)).1))), (3, .ref (G81.ad (tL t))), (0, .ref (G81.ad 100)), (1, .int (nI t)), (2, .int (nI n))]) hE.1 hE.2.1 dX10_program_84 hl (by decide) rfl (fun ls hl => ?_)
      refine lv_aload hE.1 hE.2.1 dX10_program_86 (lv_at hl 0 rfl) ?_
      refine lv_aload_n hE.1 hE.2.1 dX10_program_88 rfl (lv_at hl 3 rfl) ?_
      refine rg_getr hE hH cf_X10 fl_X10_52 rfl (w100.1) (w100.2) (v := 20000) (q100_8) dX10_program_89 ?_
      refine rg_VV (As := [.ref (G81.ad 20000)]) (rest := []) hE hml hH mc_X10_99 (c_Pg_ans l z G81 iv81 jv81 (w + 100) (tL t) (bL t) (aTb a t) hkt (hTbs t ht2) hPgn 20000 hWh (rdProg (aY a) n (aTb a t)).2.1 hgk hWc (hTd0.fr (hk5 t ht2) hFr (fun lb j h1 h2 => by unfold fPp; unfold tL at h1 h2; omega)).2.1 (by omega) (by unfold tL; omega)) (ww_100.1) (ww_100.2) (by decide) rfl ⟨Nat.le_of_ble_eq_true rfl, Nat.le_of_ble_eq_true rfl⟩ rfl hl.1 (by simp [Value.category]) dX10_program_92 ⟨by show 0 + 1 + 1 + 0 + 1 + 1 + 0 ≤ mc; omega, by show 0 + 6 + 6 + 0 + 2 + 400 + 0 ≤ ms; omega⟩ (fun G92 iv92 jv92 H locs hp92 hH => ?_)
      obtain ⟨rfl, rfl, hpa, hU92_6⟩ := hp92
      have hJ92_6 : FrJ jv81 jv81 (fun lb _ => lb = w + 101) := FrJ.rf
      have i100_6 := (hU92_6 _ _ (by omega)).trans i100_6
      have i100_1 := (hU92_6 _ _ (by omega)).trans i100_1
      have i100_9 := (hU92_6 _ _ (by omega)).trans i100_9
      have hFr := hFr.tr (hU92_6.mono (P' := (fPp w)) (fun lb j h => by unfold fPp; omega))
      have hFj := hFj.tr (hJ92_6.mono (P' := (fPp w)) (fun lb j h => by unfold fPp; omega))
      refine lv_aload_n hE.1 hE.2.1 dX10_program_95 rfl (lv_at hl 3 rfl) ?_
      refine rg_getr hE hH cf_X10 fl_X10_35 rfl (w100.1) (w100.2) (v := 108) (q100_5) dX10_program_96 ?_
      refine lv_aload_n hE.1 hE.2.1 dX10_program_99 rfl (lv_at hl 3 rfl) ?_
      refine rg_geti hE hH cf_X10 fl_X10_39 rfl (w100.1) (w100.2) (v := nI P) (i100_6) dX10_program_100 ?_
      refine lv_aload hE.1 hE.2.1 dX10_program_103 (lv_at hl 0 rfl) ?_
      refine rg_astr hE hH (Or.inr (Or.inl ⟨rfl, rfl⟩)) (w108.1) (w108.2.1) (by rw [w108.2.2]; omega) (v := w + 100) (ww_100.1) (ww_100.2) dX10_program_105 (fun H locs hH => ?_)
      have hX105_7 := GX.set (G := G81) (lb := 108) (k := P) (v := some (w + 100))
      have hS105_7 := EX.set (G := G81) (lb := 108) (k := P) (v := some (w + 100))
      have q108_P := setR_s (G := G81) (lb := 108) (k := P) (v := some (w + 100))
      generalize (G81.setR (up2 G81.rv 108 P (some (w + 100)))) = G105_7 at hH hX105_7 hS105_7 q108_P
      have hl : lv_has ls 6 [(5, .ref (G105_7.ad (w + 100))), (4, .int (nI ((rdProg (aY a) n (aTb a t)).1))), (3, .ref (G105_7.ad (tL t))), (0, .ref (G105_7.ad 100)), (1, .int (nI t)), (2, .int (nI n))] := by rw [hS105_7.adm (ww_100.1), hS105_7.adm ((hTbs t ht2).1.1), hS105_7.adm (w100.1)]; exact hl
      have w100 := And.intro (hS105_7.mem w100.1) (hS105_7.kd w100.2)
      have hPx := hPx.e hS105_7 (by omega)
      have w107 := w107.em hS105_7
      have w108 := w108.em hS105_7
      have hOu := hOu.e hS105_7 (by omega)
      have q100_0 := hX105_7.rv List.not_mem_nil (fun h => absurd h.1 (by decide)) q100_0
      have q100_2 := hX105_7.rv List.not_mem_nil (fun h => absurd h.1 (by decide)) q100_2
      have q100_3 := hX105_7.rv List.not_mem_nil (fun h => absurd h.1 (by decide)) q100_3
      have q100_5 := hX105_7.rv List.not_mem_nil (fun h => absurd h.1 (by decide)) q100_5
      have q100_10 := hX105_7.rv List.not_mem_nil (fun h => absurd h.1 (by decide)) q100_10
      have q100_7 := hX105_7.rv List.not_mem_nil (fun h => absurd h.1 (by decide)) q100_7
      have q100_8 := hX105_7.rv List.not_mem_nil (fun h => absurd h.1 (by decide)) q100_8
      have hTbs := (fun (k : Nat) (hk : k < T) => (hTbs k hk).e hS105_7 (hk5 k hk) (by unfold tL; omega) (by unfold bL; omega))
      have hPgs := (fun (k : Nat) (hk : k < P) => (hPgs k hk).e hS105_7 (by unfold gL; omega))
      have hLa := hLa.e hS105_7 (by omega)
      have hWh := hWh.e hS105_7 (by omega)
      have hkdF : G105_7.kd = kdF := by rw [EX_kd hS105_7]; exact hkdF
      have hkP : G105_7.kd (w + 100) = 5 := by rw [EX_kd hS105_7]; exact hkP
      have hkQ : G105_7.kd (w + 101) = 13 := by rw [EX_kd hS105_7]; exact hkQ
      have ww_100 := And.intro (hS105_7.mem ww_100.1) (hS105_7.kd ww_100.2)
      have hPgn := hPgn.e hS105_7 (by omega)
      have hEX := hEX.tr (hS105_7.mono (c := 100) (d := 100000) (by decide) (by decide))
      have hR7 : ∀ k, k < T → G105_7.rv 107 k = some (tL k) := fun k hk => hX105_7.rv List.not_mem_nil (by omega) (hR7 k hk)
      have hR8 : ∀ k, k < P → G105_7.rv 108 k = some (gL k) := fun k hk => hX105_7.rv List.not_mem_nil (by omega) (hR8 k hk)
      have hBd : ∀ lb ∈ G105_7.L, lb < 1000 ∨ (10000 ≤ lb ∧ lb < b + 100) ∨ (20000 ≤ lb ∧ lb < w + 1100) := fun lb hm => (EX.cov hS105_7 hm).elim (hBd lb) (fun h => by omega)
      refine lv_aload_n hE.1 hE.2.1 dX10_program_106 rfl (lv_at hl 3 rfl) ?_
      refine lv_dup hE.1 hE.2.1 dX10_program_107 rfl ?_
      refine rg_geti hE hH cf_X10 fl_X10_39 rfl (w100.1) (w100.2) (v := nI P) (i100_6) dX10_program_108 ?_
      refine lv_iconst (v := nI 1) hE.1 hE.2.1 dX10_program_111 (by decide) ?_
      refine rn_iadd hE dX10_program_112 ?_
      refine rg_puti hE hH cf_X10 fl_X10_39 rfl fn_X10_6 (w100.1) (w100.2) (v := nI (P + 1)) dX10_program_113 (fun H locs hH => ?_)
      have hU113_8 : Fr iv92 (up2 iv92 100 6 (nI (P + 1))) (fun b0 j => b0 = 100 ∧ j = 6) := Fr.up Fr.rf ⟨rfl, rfl⟩
      have hJ113_8 : FrJ jv81 jv81 (fun b0 j => b0 = 100 ∧ j = 6) := FrJ.rf
      have i100_1 := (hU113_8 _ _ (by omega)).trans i100_1
      have i100_9 := (hU113_8 _ _ (by omega)).trans i100_9
      have hpa := (fun (d : Nat) (hd : d < tC (aTb a t)) => (hU113_8 _ _ (by omega)).trans (hpa d hd))
      have hFr := hFr.tr (hU113_8.mono (P' := (fPp w)) (fun lb j h => by unfold fPp; omega))
      have hFj := hFj.tr (hJ113_8.mono (P' := (fPp w)) (fun lb j h => by unfold fPp; omega))
      have i100_6 : (up2 iv92 100 6 (nI (P + 1))) (100) 6 = nI (P + 1) := up2_s
      generalize up2 iv92 100 6 (nI (P + 1)) = iv113_8 at hH hFr hU113_8 i100_1 i100_9 hpa i100_6
      refine lv_aload_n hE.1 hE.2.1 dX10_program_116 rfl (lv_at hl 3 rfl) ?_
      refine rg_geti hE hH cf_X10 fl_X10_39 rfl (w100.1) (w100.2) (v := nI (P + 1)) (i100_6) dX10_program_117 ?_
      refine lv_iconst (v := nI 1) hE.1 hE.2.1 dX10_program_120 (by decide) ?_
      refine rn_isub hE dX10_program_121 (by omega) ?_
      refine rn_as (v' := nI P) (rfl) ?_
      refine W.widen (k := mc) (n := ms) (by show 0 + 1 + 1 + 0 + 1 + 1 + 0 ≤ mc; omega) (by show 0 + 6 + 6 + 0 + 2 + 400 + 0 ≤ ms; omega) ?_
      exact vx_ret (rg_iret hE hr rfl hlk hH ⟨hEX, ⟨by rw [hsp, if_neg h6, if_neg (by omega)]; rfl, by rw [hsp, if_neg h6, if_neg (by omega), ← hPe]; rfl, by rw [hsp, if_neg h6, if_neg (by omega)]; exact stP hX0 hTe hPe hbe hwe (by omega) ⟨w100, hPx, w107, w108, hOu, q100_0, q100_2, q100_3, q100_5, q100_10⟩ hLa hWh q100_7 q100_8 hR7 hR8 q108_P hTbs hPgs ht2 hPgn hgk hpa hFr hFj i100_1 i100_6 i100_9 (fun lb hm => by have := hBd lb hm; omega) hkdF⟩, hFr.mono (fun lb j h => by unfold fPp at h; omega), hFj.mono (fun lb j h => by unfold fPp at h; omega)⟩ dX10_program_122)
    · have hrn : (rdProg (aY a) n (aTb a t)).1 ≠ 0 := by omega
      refine lv_aload_n hE.1 hE.2.1 dX10_program_60 rfl (lv_at hl 2 rfl) ?_
      refine lv_aload_n hE.1 hE.2.1 dX10_program_61 rfl (lv_at hl 2 rfl) ?_
      refine rg_getr hE hH cf_X10 fl_X10_20 rfl (w100.1) (w100.2) (v := 102) (q100_2) dX10_program_62 ?_
      refine rg_VI (As := []) (rest := [.ref (G.ad 100)]) hE hml hH mc_X10_77 (c_Pa_place l z G hPx iv50 jv50 (aY a) n _ hLR) (hPx.1.1) (hPx.1.2) (by decide) rfl ⟨Nat.le_of_ble_eq_true rfl, Nat.le_of_ble_eq_true rfl⟩ rfl hl.1 (by simp [Value.category]) dX10_program_65 ⟨by show 0 + 1 + 1 + 0 + 0 ≤ mc; omega, by show 0 + 6 + 6 + 0 + 0 ≤ ms; omega⟩ (fun r65 G65 iv65 jv65 H locs hp65 hH => ?_)
      obtain ⟨rfl, rfl, rfl, rfl⟩ := hp65
      refine rg_puti hE hH cf_X10 fl_X10_56 rfl fn_X10_9 (w100.1) (w100.2) (v := nI (tb (rdProg (aY a) n (aTb a t)).2.2)) dX10_program_68 (fun H locs hH => ?_)
      have hU68_4 : Fr iv50 (up2 iv50 100 9 (nI (tb (rdProg (aY a) n (aTb a t)).2.2))) (fun b0 j => b0 = 100 ∧ j = 9) := Fr.up Fr.rf ⟨rfl, rfl⟩
      have hJ68_4 : FrJ jv50 jv50 (fun b0 j => b0 = 100 ∧ j = 9) := FrJ.rf
      have i100_6 := (hU68_4 _ _ (by omega)).trans i100_6
      have i100_1 := (hU68_4 _ _ (by omega)).trans i100_1
      have hFr := hFr.tr (hU68_4.mono (P' := (fPp w)) (fun lb j h => by unfold fPp; omega))
      have hFj := hFj.tr (hJ68_4.mono (P' := (fPp w)) (fun lb j h => by unfold fPp; omega))
      have i100_9 : (up2 iv50 100 9 (nI (tb (rdProg (aY a) n (aTb a t)).2.2))) (100) 9 = nI (tb (rdProg (aY a) n (aTb a t)).2.2) := up2_s
      generalize up2 iv50 100 9 (nI (tb (rdProg (aY a) n (aTb a t)).2.2)) = iv68_4 at hH hFr hU68_4 i100_6 i100_1 i100_9
      refine lv_iconst (v := -1) hE.1 hE.2.1 dX10_program_71 (by decide) ?_
      refine lv_iload hE.1 hE.2.1 dX10_program_72 (lv_at hl 0 rfl) ?_
      refine lv_isub hE.1 hE.2.1 dX10_program_74 ?_
      refine rn_as (v' := -1 - nI (rdProg (aY a) n (aTb a t)).1) (rfl) ?_
      refine W.widen (k := mc) (n := ms) (by show 0 + 1 + 1 + 0 + 0 ≤ mc; omega) (by show 0 + 6 + 6 + 0 + 0 ≤ ms; omega) ?_
      exact vx_ret (rg_iret hE hr rfl hlk hH ⟨hEX, ⟨by rw [hsp, if_neg h6, if_pos hrn]; rfl, by rw [hsp, if_neg h6, if_pos hrn]; rfl, by rw [hsp, if_neg h6, if_pos hrn]; exact stKp hX0 hPe hwe hFr hFj i100_1 i100_6 i100_9⟩, hFr.mono (fun lb j h => by unfold fPp at h; omega), hFj.mono (fun lb j h => by unfold fPp at h; omega)⟩ dX10_program_75)
  · have h6 : (aP a).length = 12 := by omega
    refine lv_bipush (v := (-9)) hE.1 hE.2.1 dX10_program_30 (by decide) ?_
    refine W.widen (k := mc) (n := ms) (by show 0 + 1 + 1 ≤ mc; omega) (by show 0 + 6 + 6 ≤ ms; omega) ?_
    exact vx_ret (rg_iret hE hr rfl hlk hH ⟨hEX, ⟨by rw [hsp, if_pos h6]; rfl, by rw [hsp, if_pos h6]; rfl, by rw [hsp, if_pos h6]; exact stKp hX0 hPe hwe hFr hFj i100_1 i100_6 i100_9⟩, hFr.mono (fun lb j h => by unfold fPp at h; omega), hFj.mono (fun lb j h => by unfold fPp at h; omega)⟩ dX10_program_32)
