set_option maxRecDepth 100000 in
set_option maxHeartbeats 4000000 in
theorem c_Tb_fill (l : Launch) (z : ZK) (G : GW) (iv : IV) (jv : JV) (t b : Nat) (tab : Tab) (hk : tabOK tab) (hTb : isTb G t b (tm tab) (tC tab) (tR tab) (tT tab)) (ht : 3000 ≤ t) (hb : 1000 ≤ b) (hbt : b + 40 ≤ t) (hLy : LAY iv jv b tab) (h1 : iv t 1 = nI (tC tab)) (f40 : t + 40 ∉ G.L) (f41 : t + 41 ∉ G.L) (k40 : G.kd (t + 40) = 13) (k41 : G.kd (t + 41) = 13) : cV l z yX7_fillCases cX7_fillCases 5 none 1 22 2 10 [.ref (G.ad t)] G iv jv (fun G' iv' jv' => EX G G' (t + 40) (t + 42) ∧ CVl iv' t tab ∧ Fr iv iv' (fun lb _ => (t + 2 ≤ lb ∧ lb < t + 7) ∨ (t + 40 ≤ lb ∧ lb < t + 42)) ∧ FrJ jv jv' (fun lb _ => t + 40 ≤ lb ∧ lb < t + 42)) := by
  intro sz
  refine rg_entry rfl (Nat.le_of_ble_eq_true rfl) ?_
  intro pq eq sq mq bq methq cq ls hE hr hlk hml hnm hl hsz hH
  have hl : lv_has ls 5 [(0, .ref (G.ad t))] := hl
  have hTb0 := hTb
  obtain ⟨⟨mt, kt⟩, hL, hCa, hA10, hA11, hA12, hA13, hA14, hA15, hA16, hA17, hTm, r0, r2, r3, r4, r5, r6, r8, r9, r11, r13, r14⟩ := hTb
  have wt := And.intro mt kt
  have hm5 := hk.2.1
  have hm1 := hk.1
  have hC4 := hk.2.2.2.1
  have hR40 := hk.2.2.2.2.2.2.1
  have hT8 := tT_le hk
  have hEX : EX G G (t + 40) (t + 42) := EX.rf
  have hFr : Fr iv iv (fun lb _ => t + 40 ≤ lb ∧ lb < t + 42) := Fr.rf
  have hFj : FrJ jv jv (fun lb _ => t + 40 ≤ lb ∧ lb < t + 42) := FrJ.rf
  refine lv_aload_n hE.1 hE.2.1 dX7_fillCases_0 rfl (lv_at hl 0 rfl) ?_
  refine rg_getr hE hH cf_X7 fl_X7_9 rfl (wt.1) (wt.2) (v := b) (r0) dX7_fillCases_1 ?_
  refine rg_VR (As := []) (rest := []) hE hml hH mc_X7_96 (c_sizes l z G iv jv b tab hk hL hLy (t + 40) f40 k40 (by omega)) (hL.1.1) (hL.1.2) (by decide) rfl ⟨Nat.le_of_ble_eq_true rfl, Nat.le_of_ble_eq_true rfl⟩ rfl hl.1 (by simp [Value.category]) dX7_fillCases_4 ⟨by show 0 + 1 ≤ 2; omega, by show 0 + 5 ≤ 10; omega⟩ (fun r4 G4 iv4 jv4 H locs hp4 hH => ?_)
  obtain ⟨rfl, hS4_1, wt_40, hsz, hU4_1, hJ4_1⟩ := hp4
  have hl : lv_has ls 5 [(0, .ref (G4.ad t))] := by rw [hS4_1.adm (wt.1)]; exact hl
  have hTb0 := hTb0.e hS4_1 hm5 (by omega) (by omega)
  have wt := And.intro (hS4_1.mem wt.1) (hS4_1.kd wt.2)
  have hL := hL.e hS4_1 (by omega)
  have f41 := hS4_1.nin f41 (by omega)
  have k41 : G4.kd (t + 41) = 13 := by rw [EX_kd hS4_1]; exact k41
  have hEX := hEX.tr (hS4_1.mono (c := t + 40) (d := t + 42) (by omega) (by omega))
  have hLy := hLy.fr2 hU4_1 hJ4_1 (fun lb j _ _ => by omega) (fun lb j _ _ => by omega)
  have h1 := (hU4_1 _ _ (by omega)).trans h1
  have hFr := hFr.tr (hU4_1.mono (P' := fun lb _ => t + 40 ≤ lb ∧ lb < t + 42) (fun lb j h => by omega))
  have hFj := hFj.tr (hJ4_1.mono (P' := fun lb _ => t + 40 ≤ lb ∧ lb < t + 42) (fun lb j h => by omega))
  refine lv_astore_n (lv' := [(1, .ref (G4.ad (t + 40))), (0, .ref (G4.ad t))]) hE.1 hE.2.1 dX7_fillCases_7 rfl hl (by decide) rfl (fun ls hl => ?_)
  refine lv_aload_n hE.1 hE.2.1 dX7_fillCases_8 rfl (lv_at hl 0 rfl) ?_
  refine rg_alen hE hH (wt_40.1) (wt_40.2.1) (by decide) (by decide) dX7_fillCases_9 ?_
  rw [wt_40.2.2]
  refine rg_newI (ty := .int) rfl hE hH (t + 41) f41 k41 (Or.inr (Or.inl ⟨rfl, rfl⟩)) (by omega) (by show 0 + 1 + 1 ≤ 2; omega) (by show 0 + 5 + (tm tab) ≤ 10; omega) dX7_fillCases_10 (fun G10_2 H hX10_2 hln10_2 hrv10_2 hH => ?_)
  have hS10_2 := hX10_2.ex1 f41
  have wt_41 : isA G10_2 (t + 41) 13 (tm tab) := ⟨hX10_2.new (List.mem_singleton_self _), hX10_2.kd k41, hln10_2⟩
  have hl : lv_has ls 5 [(1, .ref (G10_2.ad (t + 40))), (0, .ref (G10_2.ad t))] := by rw [hS10_2.adm (wt_40.1), hS10_2.adm (wt.1)]; exact hl
  have hTb0 := hTb0.e hS10_2 hm5 (by omega) (by omega)
  have wt := And.intro (hS10_2.mem wt.1) (hS10_2.kd wt.2)
  have hL := hL.e hS10_2 (by omega)
  have k41 : G10_2.kd (t + 41) = 13 := by rw [EX_kd hS10_2]; exact k41
  have wt_40 := wt_40.em hS10_2
  have hEX := hEX.tr (hS10_2.mono (c := t + 40) (d := t + 42) (dle t (a := 40) (c := 41) (by decide)) (dle t (a := 42) (c := 42) (by decide)))
  have hU10_2 : Fr iv4 (clr iv4 (t + 41) 0) (fun b0 _ => b0 = t + 41) := Fr.clr Fr.rf (fun _ => rfl)
  have hJ10_2 : FrJ jv4 (clr jv4 (t + 41) 0) (fun b0 _ => b0 = t + 41) := FrJ.clr FrJ.rf (fun _ => rfl)
  have hLy := hLy.fr2 hU10_2 hJ10_2 (fun lb j _ _ => by omega) (fun lb j _ _ => by omega)
  have h1 := (hU10_2 _ _ (dn t (a := 0) (c := 41) (by decide))).trans h1
  have hsz := (fun (i : Nat) (hi : i < tm tab) => (hU10_2 _ _ (by omega)).trans (hsz i hi))
  have hFr := hFr.tr (hU10_2.mono (P' := fun lb _ => t + 40 ≤ lb ∧ lb < t + 42) (fun lb j h => by rw [h]; exact ⟨dle t (a := 40) (c := 41) (by decide), dl t (a := 41) (c := 42) (by decide)⟩))
  have hFj := hFj.tr (hJ10_2.mono (P' := fun lb _ => t + 40 ≤ lb ∧ lb < t + 42) (fun lb j h => by rw [h]; exact ⟨dle t (a := 40) (c := 41) (by decide), dl t (a := 41) (c := 42) (by decide)⟩))
  have hz41 : ∀ j, (clr iv4 (t + 41) 0) (t + 41) j = 0 := fun j => clr_s
  generalize clr iv4 (t + 41) 0 = iv10_2 at hH hFr hU10_2 hLy h1 hsz hz41
  generalize clr jv4 (t + 41) 0 = jv10_2 at hH hFj hJ10_2 hLy hsz
  refine lv_astore_n (lv' := [(2, .ref (G10_2.ad (t + 41))), (1, .ref (G10_2.ad (t + 40))), (0, .ref (G10_2.ad t))]) hE.1 hE.2.1 dX7_fillCases_12 rfl hl (by decide) rfl (fun ls hl => ?_)
  have hTb1 := hTb0
  obtain ⟨⟨mt, kt⟩, hL, hCa, hA10, hA11, hA12, hA13, hA14, hA15, hA16, hA17, hTm, r0, r2, r3, r4, r5, r6, r8, r9, r11, r13, r14⟩ := hTb1
  have lCa := hCa.1.2.2
  have l40 := wt_40.2.2
  have l41 := wt_41.2.2
  refine lv_iconst (v := nI 0) hE.1 hE.2.1 dX7_fillCases_13 (by decide) ?_
  refine lv_istore_n (lv' := [(3, .int (nI 0)), (2, .ref (G10_2.ad (t + 41))), (1, .ref (G10_2.ad (t + 40))), (0, .ref (G10_2.ad t))]) hE.1 hE.2.1 dX7_fillCases_14 rfl hl (by decide) rfl (fun ls hl => ?_)
  refine rg_loop (σ := IV × Nat) (nL := 5) (fun (u : IV × Nat) => match u with | (iv2, c) => tC tab - c) (fun (u : IV × Nat) => match u with | (iv2, c) => [(0, .ref (G10_2.ad t)), (1, .ref (G10_2.ad (t + 40))), (2, .ref (G10_2.ad (t + 41))), (3, .int (nI c))]) (fun (u : IV × Nat) => match u with | (iv2, c) => G10_2) (fun (u : IV × Nat) => match u with | (iv2, c) => iv2) (fun (u : IV × Nat) => match u with | (iv2, c) => jv10_2) (fun (u : IV × Nat) => match u with | (iv2, c) => c ≤ tC tab ∧ (∀ i, i < tm tab → iv2 (t + 41) i = nI (vOf (tf tab) (tm tab) c i)) ∧ (∀ i, i < tm tab → ∀ d, d < c → iv2 (t + 2 + i) d = nI (vOf (tf tab) (tm tab) d i)) ∧ Fr iv10_2 iv2 (fun lb _ => (t + 2 ≤ lb ∧ lb < t + 7) ∨ lb = t + 41)) ?_ ((iv10_2, 0)) ⟨Nat.zero_le _, fun i hi => by rw [vOf_0]; exact hz41 i, fun i hi d hd => absurd hd (Nat.not_lt_zero d), Fr.rf⟩ (lv_sub hl [3, 2, 1, 0] rfl) hH
  rintro ⟨iv2, c⟩ H locs ls ⟨hcC, hva, hcv, hF15⟩ hl hH ih15
  try dsimp only at hl hH ih15
  try dsimp only at hcC hva hcv hF15
  refine lv_iload_n hE.1 hE.2.1 dX7_fillCases_15 rfl (lv_at hl 3 rfl) ?_
  refine lv_aload_n hE.1 hE.2.1 dX7_fillCases_16 rfl (lv_at hl 0 rfl) ?_
  refine rg_geti hE hH cf_X7 fl_X7_21 rfl (wt.1) (wt.2) (v := nI (tC tab)) ((hF15 _ _ (by omega)).trans h1) dX7_fillCases_17 ?_
  refine rn_icmp_ge (tgt := 63) hE dX7_fillCases_20 (by decide) (by omega) (by omega) (fun c20 => ?_) (fun c20 => ?_)
  · have hce : c = tC tab := by omega
    subst hce
    refine W.widen (k := 2) (n := 10) (by show 0 + 1 + 1 ≤ 2; omega) (by show 0 + 5 + (tm tab) ≤ 10; omega) ?_
    exact rg_vret hE hr hlk hH ⟨hEX, hcv, (hFr.mono (P' := fun lb _ => (t + 2 ≤ lb ∧ lb < t + 7) ∨ (t + 40 ≤ lb ∧ lb < t + 42)) (fun lb j h => Or.inr h)).tr (hF15.mono (fun lb j h => by omega)), hFj⟩ dX7_fillCases_63
  · refine lv_iconst (v := nI 0) hE.1 hE.2.1 dX7_fillCases_23 (by decide) ?_
    refine lv_istore (lv' := [(4, .int (nI 0)), (0, .ref (G10_2.ad t)), (1, .ref (G10_2.ad (t + 40))), (2, .ref (G10_2.ad (t + 41))), (3, .int (nI c))]) hE.1 hE.2.1 dX7_fillCases_24 hl (by decide) rfl (fun ls hl => ?_)
    refine rg_loop (σ := IV × Nat) (nL := 5) (fun (u : IV × Nat) => match u with | (iv3, i) => tm tab - i) (fun (u : IV × Nat) => match u with | (iv3, i) => [(0, .ref (G10_2.ad t)), (1, .ref (G10_2.ad (t + 40))), (2, .ref (G10_2.ad (t + 41))), (3, .int (nI c)), (4, .int (nI i))]) (fun (u : IV × Nat) => match u with | (iv3, i) => G10_2) (fun (u : IV × Nat) => match u with | (iv3, i) => iv3) (fun (u : IV × Nat) => match u with | (iv3, i) => jv10_2) (fun (u : IV × Nat) => match u with | (iv3, i) => i ≤ tm tab ∧ (∀ k, k < tm tab → iv3 (t + 41) k = nI (vOf (tf tab) (tm tab) c k)) ∧ (∀ k, k < tm tab → ∀ d, d < c ∨ (d = c ∧ k < i) → iv3 (t + 2 + k) d = nI (vOf (tf tab) (tm tab) d k)) ∧ Fr iv10_2 iv3 (fun lb _ => (t + 2 ≤ lb ∧ lb < t + 7) ∨ lb = t + 41)) ?_ ((iv2, 0)) ⟨Nat.zero_le _, hva, fun k hk d hd => hcv k hk d (by omega), hF15⟩ (lv_sub hl [1, 2, 3, 4, 0] rfl) hH
    rintro ⟨iv3, i⟩ H locs ls ⟨him, hva, hcv, hF26⟩ hl hH ih26
    try dsimp only at hl hH ih26
    try dsimp only at him hva hcv hF26
    refine lv_iload hE.1 hE.2.1 dX7_fillCases_26 (lv_at hl 4 rfl) ?_
    refine lv_aload_n hE.1 hE.2.1 dX7_fillCases_28 rfl (lv_at hl 2 rfl) ?_
    refine rg_alen hE hH (wt_41.1) (wt_41.2.1) (by decide) (by decide) dX7_fillCases_29 ?_
    rw [l41]
    refine rn_icmp_ge (tgt := 52) hE dX7_fillCases_30 (by decide) (by omega) (by omega) (fun c30 => ?_) (fun c30 => ?_)
    · have hie : i = tm tab := by omega
      subst hie
      have hcv3 : ∀ i, i < tm tab → ∀ d, d < c + 1 → iv3 (t + 2 + i) d = nI (vOf (tf tab) (tm tab) d i) := fun i hi d hd => hcv i hi d (by omega)
      refine lv_aload_n hE.1 hE.2.1 dX7_fillCases_52 rfl (lv_at hl 2 rfl) ?_
      refine lv_aload_n hE.1 hE.2.1 dX7_fillCases_53 rfl (lv_at hl 1 rfl) ?_
      refine rg_NV (As := [.ref (G10_2.ad (t + 41)), .ref (G10_2.ad (t + 40))]) (rest := []) hE hml hH mc_X7_100 (c_stepOn l z G10_2 iv3 jv10_2 (t + 41) (t + 40) (tm tab) wt_41 wt_40 (by omega) hm1 hm5 (tf tab) (fun i hi => ⟨by have := hk.2.2.1 i hi; omega, by have := hk.2.2.1 i hi; omega⟩) c hva (fun i hi => (hF26 _ _ (by omega)).trans (hsz i hi))) rfl ⟨Nat.le_of_ble_eq_true rfl, Nat.le_of_ble_eq_true rfl⟩ rfl hl.1 (by simp [Value.category]) dX7_fillCases_54 ⟨by show 0 + 1 + 1 + 0 ≤ 2; omega, by show 0 + 5 + (tm tab) + 0 ≤ 10; omega⟩ (fun G54 iv54 jv54 H locs hp54 hH => ?_)
      obtain ⟨rfl, rfl, hv54, hF54⟩ := hp54
      refine lv_iinc (v := nI (c + 1)) (lv' := [(3, .int (nI (c + 1))), (0, .ref (G10_2.ad t)), (1, .ref (G10_2.ad (t + 40))), (2, .ref (G10_2.ad (t + 41))), (4, .int (nI (tm tab)))]) hE.1 hE.2.1 dX7_fillCases_57 hl (k := 3) rfl (nI_1 _) (by decide) rfl (fun ls hl => ?_)
      refine lv_goto (tgt := 15) hE.1 hE.2.1 dX7_fillCases_60 (by decide) ?_
      exact ih15 (iv54, c + 1) _ _ _ (show tC tab - (c + 1) < tC tab - c by omega) ⟨by show c + 1 ≤ tC tab; omega, hv54, fun i hi d hd => (hF54 _ _ (by omega)).trans (hcv3 i hi d hd), hF26.tr (hF54.mono (fun lb j h => Or.inr h))⟩ (lv_sub hl [1, 2, 3, 0] rfl) hH
    · have lCi : G10_2.ln (t + 2 + i) = tC tab := (hCa.2 i (by omega)).1.2.2
      refine lv_aload_n hE.1 hE.2.1 dX7_fillCases_33 rfl (lv_at hl 0 rfl) ?_
      refine rg_getr hE hH cf_X7 fl_X7_27 rfl (wt.1) (wt.2) (v := t + 1) (r2) dX7_fillCases_34 ?_
      refine lv_iload hE.1 hE.2.1 dX7_fillCases_37 (lv_at hl 4 rfl) ?_
      refine rg_aldr hE hH (hCa.1.1) (hCa.1.2.1) (by decide) (by decide) (by omega) (v := t + 2 + i) ((hCa.2 i (by omega)).2) dX7_fillCases_39 ?_
      refine lv_iload_n hE.1 hE.2.1 dX7_fillCases_40 rfl (lv_at hl 3 rfl) ?_
      refine lv_aload_n hE.1 hE.2.1 dX7_fillCases_41 rfl (lv_at hl 2 rfl) ?_
      refine lv_iload hE.1 hE.2.1 dX7_fillCases_42 (lv_at hl 4 rfl) ?_
      refine rg_iald hE hH (wt_41.1) (wt_41.2.1) (by omega) (v := nI (vOf (tf tab) (tm tab) c i)) (hva i (by omega)) dX7_fillCases_44 ?_
      refine rg_iast hE hH ((hCa.2 i (by omega)).1.1) ((hCa.2 i (by omega)).1.2.1) (by omega) (v := nI (vOf (tf tab) (tm tab) c i)) dX7_fillCases_45 (fun H locs hH => ?_)
      refine lv_iinc (v := nI (i + 1)) (lv' := [(4, .int (nI (i + 1))), (0, .ref (G10_2.ad t)), (1, .ref (G10_2.ad (t + 40))), (2, .ref (G10_2.ad (t + 41))), (3, .int (nI c))]) hE.1 hE.2.1 dX7_fillCases_46 hl (k := 4) rfl (nI_1 _) (by decide) rfl (fun ls hl => ?_)
      refine lv_goto (tgt := 26) hE.1 hE.2.1 dX7_fillCases_49 (by decide) ?_
      exact ih26 (up2 iv3 (t + 2 + i) c (nI (vOf (tf tab) (tm tab) c i)), i + 1) _ _ _ (show tm tab - (i + 1) < tm tab - i by omega) ⟨by show i + 1 ≤ tm tab; omega, fun k hk => by dsimp only; rw [up2_l (by omega)]; exact hva k hk, fun k hk d hd => by
        dsimp only at hd ⊢
        by_cases hki : k = i
        · subst hki
          by_cases hdc : d = c
          · subst hdc; exact up2_s
          · rw [up2_k hdc]; exact hcv k hk d (by omega)
        · rw [up2_l (by omega)]; exact hcv k hk d (by omega), Fr.up hF26 (Or.inl ⟨by omega, by omega⟩)⟩ (lv_sub hl [1, 2, 3, 4, 0] rfl) hH
