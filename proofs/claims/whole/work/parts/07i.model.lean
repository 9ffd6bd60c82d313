set_option maxRecDepth 100000 in
set_option maxHeartbeats 4000000 in
theorem c_Tm_fill (l : Launch) (z : ZK) (G : GW) (iv : IV) (jv : JV) (u0 : Nat) (tab : Tab) (hk : tabOK tab) (hTm : isTm G u0 (tm tab) (tC tab) (tT tab)) (la va : Nat) (hla2 : u0 + 15 ≤ la) (hva2 : va = la + 1) (fl : la ∉ G.L) (fv : va ∉ G.L) (kl : G.kd la = 13) (kv : G.kd va = 13) (hTs : ∀ i, i < tm tab → iv (u0 + 1) i = nI (tf tab i) ∧ iv (u0 + 2) i = nI (st (g1 tab) (tm tab) i)) (hT2 : iv u0 2 = nI (tT tab)) (hz10 : ∀ j, iv (u0 + 10) j = 0) : cV l z yX8_fillTerms cX8_fillTerms 6 none 1 22 2 10 [.ref (G.ad u0)] G iv jv (fun G' iv' jv' => EX G G' la (la + 2) ∧ TmV iv' u0 tab ∧ Fr iv iv' (fun lb _ => (u0 + 4 ≤ lb ∧ lb < u0 + 9) ∨ lb = u0 + 10 ∨ lb = u0 + 11 ∨ (la ≤ lb ∧ lb < la + 2)) ∧ FrJ jv jv' (fun lb _ => la ≤ lb ∧ lb < la + 2)) := by
  intro sz
  refine rg_entry rfl (Nat.le_of_ble_eq_true rfl) ?_
  intro pq eq sq mq bq methq cq ls hE hr hlk hml hnm hl hsz hH
  have hl : lv_has ls 6 [(0, .ref (G.ad u0))] := hl
  have hm5 := hk.2.1
  have hm1 := hk.1
  have hC4 := hk.2.2.2.1
  have hR40 := hk.2.2.2.2.2.2.1
  have hT8 := tT_le hk
  have hTm0 := hTm
  obtain ⟨⟨mu, ku⟩, hB1, hB2, hB3, hBi, hB10, hB11, hB12, hB13, hB14, s0, s1, s3, s4, s5, s6, s7, s8⟩ := hTm
  have wu0 := And.intro mu ku
  have hEX : EX G G la (la + 2) := EX.rf
  have hFr : Fr iv iv (fun lb _ => la ≤ lb ∧ lb < la + 2) := Fr.rf
  have hFj : FrJ jv jv (fun lb _ => la ≤ lb ∧ lb < la + 2) := FrJ.rf
  refine lv_aload_n hE.1 hE.2.1 dX8_fillTerms_0 rfl (lv_at hl 0 rfl) ?_
  refine rg_getr hE hH cf_X8 fl_X8_15 rfl (wu0.1) (wu0.2) (v := u0 + 1) (s0) dX8_fillTerms_1 ?_
  refine rg_alen hE hH (hB1.1) (hB1.2.1) (by decide) (by decide) dX8_fillTerms_4 ?_
  rw [hB1.2.2]
  refine rg_newI (ty := .int) rfl hE hH (la) fl kl (Or.inr (Or.inl ⟨rfl, rfl⟩)) (by omega) (by show 0 + 1 ≤ 2; omega) (by show 0 + (tm tab) ≤ 10; omega) dX8_fillTerms_5 (fun G5_1 H hX5_1 hln5_1 hrv5_1 hH => ?_)
  have hS5_1 := hX5_1.ex1 fl
  have wla : isA G5_1 (la) 13 (tm tab) := ⟨hX5_1.new (List.mem_singleton_self _), hX5_1.kd kl, hln5_1⟩
  have hl : lv_has ls 6 [(0, .ref (G5_1.ad u0))] := by rw [hS5_1.adm (wu0.1)]; exact hl
  have hTm0 := hTm0.e hS5_1 hm5 (by omega)
  have wu0 := And.intro (hS5_1.mem wu0.1) (hS5_1.kd wu0.2)
  have hB1 := hB1.em hS5_1
  have s0 := hS5_1.rv (by omega) s0
  have fv := hS5_1.nin fv (by omega)
  have kl : G5_1.kd la = 13 := by rw [EX_kd hS5_1]; exact kl
  have kv : G5_1.kd va = 13 := by rw [EX_kd hS5_1]; exact kv
  have hEX := hEX.tr (hS5_1.mono (c := la) (d := la + 2) (dle la (a := 0) (c := 0) (by decide)) (dle la (a := 1) (c := 2) (by decide)))
  have hU5_1 : Fr iv (clr iv (la) 0) (fun b0 _ => b0 = la) := Fr.clr Fr.rf (fun _ => rfl)
  have hJ5_1 : FrJ jv (clr jv (la) 0) (fun b0 _ => b0 = la) := FrJ.clr FrJ.rf (fun _ => rfl)
  have hTs := (fun (i : Nat) (hi : i < tm tab) => And.intro ((hU5_1 _ _ (by omega)).trans (hTs i hi).1) ((hU5_1 _ _ (by omega)).trans (hTs i hi).2))
  have hT2 := (hU5_1 _ _ (by omega)).trans hT2
  have hz10 := (fun (j : Nat) => (hU5_1 _ _ (by omega)).trans (hz10 j))
  have hFr := hFr.tr (hU5_1.mono (P' := fun lb _ => la ≤ lb ∧ lb < la + 2) (fun lb j h => by rw [h]; exact ⟨dle la (a := 0) (c := 0) (by decide), dl la (a := 0) (c := 2) (by decide)⟩))
  have hFj := hFj.tr (hJ5_1.mono (P' := fun lb _ => la ≤ lb ∧ lb < la + 2) (fun lb j h => by rw [h]; exact ⟨dle la (a := 0) (c := 0) (by decide), dl la (a := 0) (c := 2) (by decide)⟩))
  generalize clr iv (la) 0 = iv5_1 at hH hFr hU5_1 hTs hT2 hz10
  generalize clr jv (la) 0 = jv5_1 at hH hFj hJ5_1 hTs hz10
  refine lv_astore_n (lv' := [(1, .ref (G5_1.ad la)), (0, .ref (G5_1.ad u0))]) hE.1 hE.2.1 dX8_fillTerms_7 rfl hl (by decide) rfl (fun ls hl => ?_)
  refine lv_iconst (v := nI 0) hE.1 hE.2.1 dX8_fillTerms_8 (by decide) ?_
  refine lv_istore_n (lv' := [(2, .int (nI 0)), (1, .ref (G5_1.ad la)), (0, .ref (G5_1.ad u0))]) hE.1 hE.2.1 dX8_fillTerms_9 rfl hl (by decide) rfl (fun ls hl => ?_)
  refine rg_loop (σ := IV × Nat) (nL := 6) (fun (u : IV × Nat) => match u with | (iv2, i) => tm tab - i) (fun (u : IV × Nat) => match u with | (iv2, i) => [(0, .ref (G5_1.ad u0)), (1, .ref (G5_1.ad la)), (2, .int (nI i))]) (fun (u : IV × Nat) => match u with | (iv2, i) => G5_1) (fun (u : IV × Nat) => match u with | (iv2, i) => iv2) (fun (u : IV × Nat) => match u with | (iv2, i) => jv5_1) (fun (u : IV × Nat) => match u with | (iv2, i) => i ≤ tm tab ∧ (∀ k, k < i → iv2 la k = nI (g1 tab k)) ∧ Fr iv5_1 iv2 (fun lb _ => lb = la)) ?_ ((iv5_1, 0)) ⟨Nat.zero_le _, fun k hk => absurd hk (Nat.not_lt_zero k), Fr.rf⟩ (lv_sub hl [2, 1, 0] rfl) hH
  rintro ⟨iv2, i⟩ H locs ls ⟨him, hla, hF10⟩ hl hH ih10
  try dsimp only at hl hH ih10
  try dsimp only at him hla hF10
  refine lv_iload_n hE.1 hE.2.1 dX8_fillTerms_10 rfl (lv_at hl 2 rfl) ?_
  refine lv_aload_n hE.1 hE.2.1 dX8_fillTerms_11 rfl (lv_at hl 0 rfl) ?_
  refine rg_getr hE hH cf_X8 fl_X8_15 rfl (wu0.1) (wu0.2) (v := u0 + 1) (s0) dX8_fillTerms_12 ?_
  refine rg_alen hE hH (hB1.1) (hB1.2.1) (by decide) (by decide) dX8_fillTerms_15 ?_
  rw [hB1.2.2]
  refine rn_icmp_ge (tgt := 36) hE dX8_fillTerms_16 (by decide) (by omega) (by omega) (fun c16 => ?_) (fun c16 => ?_)
  · have hie : i = tm tab := by omega
    subst hie
    have hU10 := hF10
    have hJ10 : FrJ jv5_1 jv5_1 (fun lb _ => lb = la) := FrJ.rf
    have hTs := (fun (i : Nat) (hi : i < tm tab) => And.intro ((hU10 _ _ (by omega)).trans (hTs i hi).1) ((hU10 _ _ (by omega)).trans (hTs i hi).2))
    have hT2 := (hU10 _ _ (by omega)).trans hT2
    have hz10 := (fun (j : Nat) => (hU10 _ _ (by omega)).trans (hz10 j))
    have hFr := hFr.tr (hU10.mono (P' := fun lb _ => la ≤ lb ∧ lb < la + 2) (fun lb j h => by omega))
    have hFj := hFj.tr (hJ10.mono (P' := fun lb _ => la ≤ lb ∧ lb < la + 2) (fun lb j h => by omega))
    refine lv_aload_n hE.1 hE.2.1 dX8_fillTerms_36 rfl (lv_at hl 0 rfl) ?_
    refine rg_getr hE hH cf_X8 fl_X8_15 rfl (wu0.1) (wu0.2) (v := u0 + 1) (s0) dX8_fillTerms_37 ?_
    refine rg_alen hE hH (hB1.1) (hB1.2.1) (by decide) (by decide) dX8_fillTerms_40 ?_
    rw [hB1.2.2]
    refine rg_newI (ty := .int) rfl hE hH (va) fv kv (Or.inr (Or.inl ⟨rfl, rfl⟩)) (by omega) (by show 0 + 1 + 1 ≤ 2; omega) (by show 0 + (tm tab) + (tm tab) ≤ 10; omega) dX8_fillTerms_41 (fun G41_2 H hX41_2 hln41_2 hrv41_2 hH => ?_)
    have hS41_2 := hX41_2.ex1 fv
    have wva : isA G41_2 (va) 13 (tm tab) := ⟨hX41_2.new (List.mem_singleton_self _), hX41_2.kd kv, hln41_2⟩
    have hl : lv_has ls 6 [(0, .ref (G41_2.ad u0)), (1, .ref (G41_2.ad la)), (2, .int (nI (tm tab)))] := by rw [hS41_2.adm (wu0.1), hS41_2.adm (wla.1)]; exact hl
    have hTm0 := hTm0.e hS41_2 hm5 (by omega)
    have wu0 := And.intro (hS41_2.mem wu0.1) (hS41_2.kd wu0.2)
    have hB1 := hB1.em hS41_2
    have s0 := hS41_2.rv (by omega) s0
    have kl : G41_2.kd la = 13 := by rw [EX_kd hS41_2]; exact kl
    have kv : G41_2.kd va = 13 := by rw [EX_kd hS41_2]; exact kv
    have wla := wla.em hS41_2
    have hEX := hEX.tr (hS41_2.mono (c := la) (d := la + 2) (by omega) (by omega))
    have hU41_2 : Fr iv2 (clr iv2 (va) 0) (fun b0 _ => b0 = va) := Fr.clr Fr.rf (fun _ => rfl)
    have hJ41_2 : FrJ jv5_1 (clr jv5_1 (va) 0) (fun b0 _ => b0 = va) := FrJ.clr FrJ.rf (fun _ => rfl)
    have hTs := (fun (i : Nat) (hi : i < tm tab) => And.intro ((hU41_2 _ _ (by omega)).trans (hTs i hi).1) ((hU41_2 _ _ (by omega)).trans (hTs i hi).2))
    have hT2 := (hU41_2 _ _ (by omega)).trans hT2
    have hz10 := (fun (j : Nat) => (hU41_2 _ _ (by omega)).trans (hz10 j))
    have hla := (fun (i : Nat) (hi : i < tm tab) => (hU41_2 _ _ (by omega)).trans (hla i hi))
    have hFr := hFr.tr (hU41_2.mono (P' := fun lb _ => la ≤ lb ∧ lb < la + 2) (fun lb j h => by omega))
    have hFj := hFj.tr (hJ41_2.mono (P' := fun lb _ => la ≤ lb ∧ lb < la + 2) (fun lb j h => by omega))
    have hzv : ∀ j, (clr iv2 (va) 0) (va) j = 0 := fun j => clr_s
    generalize clr iv2 (va) 0 = iv41_2 at hH hFr hU41_2 hTs hT2 hz10 hla hzv
    generalize clr jv5_1 (va) 0 = jv41_2 at hH hFj hJ41_2 hTs hz10 hla
    refine lv_astore_n (lv' := [(2, .ref (G41_2.ad va)), (0, .ref (G41_2.ad u0)), (1, .ref (G41_2.ad la))]) hE.1 hE.2.1 dX8_fillTerms_43 rfl hl (by decide) rfl (fun ls hl => ?_)
    refine lv_iconst (v := nI 0) hE.1 hE.2.1 dX8_fillTerms_44 (by decide) ?_
    refine lv_istore_n (lv' := [(3, .int (nI 0)), (2, .ref (G41_2.ad va)), (0, .ref (G41_2.ad u0)), (1, .ref (G41_2.ad la))]) hE.1 hE.2.1 dX8_fillTerms_45 rfl hl (by decide) rfl (fun ls hl => ?_)
    have hB1x := hTm0
    obtain ⟨⟨mu, ku⟩, hB1, hB2, hB3, hBi, hB10, hB11, hB12, hB13, hB14, s0, s1, s3, s4, s5, s6, s7, s8⟩ := hB1x
    have l1 := hB1.2.2
    have l3 := hB3.2.2
    have l10 := hB10.2.2
    have l11 := hB11.2.2
    have lla := wla.2.2
    have lva := wva.2.2
    have hl : lv_has ls 6 [(3, .int (nI (cntN (ful tab (tm tab)) 0))), (2, .ref (G41_2.ad va)), (0, .ref (G41_2.ad u0)), (1, .ref (G41_2.ad la))] := hl
    refine lv_iconst (v := nI 0) hE.1 hE.2.1 dX8_fillTerms_46 (by decide) ?_
    refine lv_istore (lv' := [(4, .int (nI 0)), (3, .int (nI (cntN (ful tab (tm tab)) 0))), (2, .ref (G41_2.ad va)), (0, .ref (G41_2.ad u0)), (1, .ref (G41_2.ad la))]) hE.1 hE.2.1 dX8_fillTerms_47 hl (by decide) rfl (fun ls hl => ?_)
    refine rg_loop (σ := IV × Nat) (nL := 6) (fun (u : IV × Nat) => match u with | (iv2, q) => tT tab - q) (fun (u : IV × Nat) => match u with | (iv2, q) => [(0, .ref (G41_2.ad u0)), (1, .ref (G41_2.ad la)), (2, .ref (G41_2.ad va)), (3, .int (nI (cntN (ful tab (tm tab)) q))), (4, .int (nI q))]) (fun (u : IV × Nat) => match u with | (iv2, q) => G41_2) (fun (u : IV × Nat) => match u with | (iv2, q) => iv2) (fun (u : IV × Nat) => match u with | (iv2, q) => jv41_2) (fun (u : IV × Nat) => match u with | (iv2, q) => q ≤ tT tab ∧ (∀ i, i < tm tab → iv2 va i = nI (vOf (g1 tab) (tm tab) q i)) ∧ (∀ i, i < tm tab → ∀ p, p < q → iv2 (u0 + 4 + i) p = nI (vOf (g1 tab) (tm tab) p i)) ∧ (∀ p, p < q → iv2 (u0 + 10) p = nI (tld tab p) ∧ iv2 (u0 + 11) p = cof tab p) ∧ (∀ p, q ≤ p → iv2 (u0 + 10) p = 0) ∧ Fr iv41_2 iv2 (fun lb _ => (u0 + 4 ≤ lb ∧ lb < u0 + 9) ∨ lb = u0 + 10 ∨ lb = u0 + 11 ∨ lb = va)) ?_ ((iv41_2, 0)) ⟨Nat.zero_le _, fun i hi => by rw [vOf_0]; exact hzv i, fun i hi p hp => absurd hp (Nat.not_lt_zero p), fun p hp => absurd hp (Nat.not_lt_zero p), fun p _ => hz10 p, Fr.rf⟩ (lv_sub hl [3, 4, 2, 1, 0] rfl) hH
    rintro ⟨iv2, q⟩ H locs ls ⟨hqT, hva, hto, htc, hzz, hF49⟩ hl hH ih49
    try dsimp only at hl hH ih49
    try dsimp only at hqT hva hto htc hzz hF49
    refine lv_iload hE.1 hE.2.1 dX8_fillTerms_49 (lv_at hl 4 rfl) ?_
    refine lv_aload_n hE.1 hE.2.1 dX8_fillTerms_51 rfl (lv_at hl 0 rfl) ?_
    refine rg_geti hE hH cf_X8 fl_X8_23 rfl (wu0.1) (wu0.2) (v := nI (tT tab)) ((hF49 _ _ (by omega)).trans hT2) dX8_fillTerms_52 ?_
    refine rn_icmp_ge (tgt := 161) hE dX8_fillTerms_55 (by decide) (by omega) (by omega) (fun c55 => ?_) (fun c55 => ?_)
    · have hqe : q = tT tab := by omega
      subst hqe
      refine W.widen (k := 2) (n := 10) (by show 0 + 1 + 1 ≤ 2; omega) (by show 0 + (tm tab) + (tm tab) ≤ 10; omega) ?_
      exact rg_vret hE hr hlk hH ⟨hEX, ⟨fun i hi => ⟨(hF49 _ _ (by omega)).trans (hTs i hi).1, (hF49 _ _ (by omega)).trans (hTs i hi).2⟩, (hF49 _ _ (by omega)).trans hT2, hto, htc⟩, (hFr.mono (P' := (fun lb _ => (u0 + 4 ≤ lb ∧ lb < u0 + 9) ∨ lb = u0 + 10 ∨ lb = u0 + 11 ∨ (la ≤ lb ∧ lb < la + 2))) (fun lb j h => by omega)).tr (hF49.mono (fun lb j h => by omega)), hFj⟩ dX8_fillTerms_161
    · have hcl := cntN_le (p := ful tab (tm tab)) q
      refine lv_iconst (v := nI 0) hE.1 hE.2.1 dX8_fillTerms_58 (by decide) ?_
      refine lv_istore (lv' := [(5, .int (nI 0)), (0, .ref (G41_2.ad u0)), (1, .ref (G41_2.ad la)), (2, .ref (G41_2.ad va)), (3, .int (nI (cntN (ful tab (tm tab)) q))), (4, .int (nI q))]) hE.1 hE.2.1 dX8_fillTerms_59 hl (by decide) rfl (fun ls hl => ?_)
      refine rg_loop (σ := IV × Nat) (nL := 6) (fun (u : IV × Nat) => match u with | (iv3, i) => tm tab - i) (fun (u : IV × Nat) => match u with | (iv3, i) => [(0, .ref (G41_2.ad u0)), (1, .ref (G41_2.ad la)), (2, .ref (G41_2.ad va)), (3, .int (nI (cntN (ful tab (tm tab)) q))), (4, .int (nI q)), (5, .int (nI i))]) (fun (u : IV × Nat) => match u with | (iv3, i) => G41_2) (fun (u : IV × Nat) => match u with | (iv3, i) => iv3) (fun (u : IV × Nat) => match u with | (iv3, i) => jv41_2) (fun (u : IV × Nat) => match u with | (iv3, i) => i ≤ tm tab ∧ (∀ k, k < i → iv3 (u0 + 4 + k) q = nI (vOf (g1 tab) (tm tab) q k)) ∧ iv3 (u0 + 10) q = nI (cntN (fun i => (tAt tab q i).isSome) i) ∧ Fr iv2 iv3 (fun lb j => ((u0 + 4 ≤ lb ∧ lb < u0 + 9) ∨ lb = u0 + 10) ∧ j = q)) ?_ ((iv2, 0)) ⟨Nat.zero_le _, fun k hk => absurd hk (Nat.not_lt_zero k), hzz q (Nat.le_refl _), Fr.rf⟩ (lv_sub hl [1, 2, 3, 4, 5, 0] rfl) hH
      rintro ⟨iv3, i⟩ H locs ls ⟨him, hto3, htc3, hF61⟩ hl hH ih61
      try dsimp only at hl hH ih61
      try dsimp only at him hto3 htc3 hF61
      refine lv_iload hE.1 hE.2.1 dX8_fillTerms_61 (lv_at hl 5 rfl) ?_
      refine lv_aload_n hE.1 hE.2.1 dX8_fillTerms_63 rfl (lv_at hl 0 rfl) ?_
      refine rg_getr hE hH cf_X8 fl_X8_15 rfl (wu0.1) (wu0.2) (v := u0 + 1) (s0) dX8_fillTerms_64 ?_
      refine rg_alen hE hH (hB1.1) (hB1.2.1) (by decide) (by decide) dX8_fillTerms_67 ?_
      rw [l1]
      refine rn_icmp_ge (tgt := 116) hE dX8_fillTerms_68 (by decide) (by omega) (by omega) (fun c68 => ?_) (fun c68 => ?_)
      · have hie : i = tm tab := by omega
        subst hie
        refine lv_aload_n hE.1 hE.2.1 dX8_fillTerms_116 rfl (lv_at hl 0 rfl) ?_
        refine rg_getr hE hH cf_X8 fl_X8_35 rfl (wu0.1) (wu0.2) (v := u0 + 11) (s5) dX8_fillTerms_117 ?_
        refine lv_iload hE.1 hE.2.1 dX8_fillTerms_120 (lv_at hl 4 rfl) ?_
        refine lv_iconst (v := -1) hE.1 hE.2.1 dX8_fillTerms_122 (by decide) ?_
        refine rg_iast hE hH (hB11.1) (hB11.2.1) (by omega) (v := -1) dX8_fillTerms_123 (fun H locs hH => ?_)
        have hU123 : Fr iv3 (up2 iv3 (u0 + 11) q (-1)) (fun lb j => lb = u0 + 11 ∧ j = q) := Fr.up Fr.rf ⟨rfl, rfl⟩
        have htlq : tld tab q ≤ tm tab := cntN_le _
        refine lv_aload_n hE.1 hE.2.1 dX8_fillTerms_124 rfl (lv_at hl 0 rfl) ?_
        refine rg_getr hE hH cf_X8 fl_X8_32 rfl (wu0.1) (wu0.2) (v := u0 + 10) (s4) dX8_fillTerms_125 ?_
        refine lv_iload hE.1 hE.2.1 dX8_fillTerms_128 (lv_at hl 4 rfl) ?_
        refine rg_iald hE hH (hB10.1) (hB10.2.1) (by omega) (v := nI (tld tab q)) ((hU123 _ _ (by omega)).trans htc3) dX8_fillTerms_130 ?_
        refine lv_aload_n hE.1 hE.2.1 dX8_fillTerms_131 rfl (lv_at hl 0 rfl) ?_
        refine rg_getr hE hH cf_X8 fl_X8_15 rfl (wu0.1) (wu0.2) (v := u0 + 1) (s0) dX8_fillTerms_132 ?_
        refine rg_alen hE hH (hB1.1) (hB1.2.1) (by decide) (by decide) dX8_fillTerms_135 ?_
        rw [l1]
        refine rn_icmp_ne (tgt := 150) hE dX8_fillTerms_136 (by decide) (by omega) (by omega) (fun c136 => ?_) (fun c136 => ?_)
        · have hnf : ¬ ful tab (tm tab) q = true := fun h => c136 (tld_ful.mpr h)
          have hUx : Fr iv3 (up2 iv3 (u0 + 11) q (-1)) (fun lb j => lb = u0 + 11 ∧ j = q) := hU123
          have h11 : (up2 iv3 (u0 + 11) q (-1)) (u0 + 11) q = cof tab q := up2_s.trans (cof_f hnf).symm
          generalize up2 iv3 (u0 + 11) q (-1) = iv4 at hH hUx h11
          have hto4 : ∀ i, i < tm tab → ∀ p, p < q + 1 → iv4 (u0 + 4 + i) p = nI (vOf (g1 tab) (tm tab) p i) := fun i hi p hp => by
            by_cases hpq : p = q
            · subst hpq; exact (hUx _ _ (by omega)).trans (hto3 i hi)
            · exact (hUx _ _ (by omega)).trans ((hF61 _ _ (by omega)).trans (hto i hi p (by omega)))
          have htc4 : ∀ p, p < q + 1 → iv4 (u0 + 10) p = nI (tld tab p) ∧ iv4 (u0 + 11) p = cof tab p := fun p hp => by
            by_cases hpq : p = q
            · subst hpq; exact ⟨(hUx _ _ (by omega)).trans htc3, h11⟩
            · exact ⟨(hUx _ _ (by omega)).trans ((hF61 _ _ (by omega)).trans (htc p (by omega)).1), (hUx _ _ (by omega)).trans ((hF61 _ _ (by omega)).trans (htc p (by omega)).2)⟩
          have hzz4 : ∀ p, q + 1 ≤ p → iv4 (u0 + 10) p = 0 := fun p hp => (hUx _ _ (by omega)).trans ((hF61 _ _ (by omega)).trans (hzz p (by omega)))
          have hva4 : ∀ i, i < tm tab → iv4 va i = nI (vOf (g1 tab) (tm tab) q i) := fun i hi => (hUx _ _ (by omega)).trans ((hF61 _ _ (by omega)).trans (hva i hi))
          have hF4 : Fr iv41_2 iv4 (fun lb _ => (u0 + 4 ≤ lb ∧ lb < u0 + 9) ∨ lb = u0 + 10 ∨ lb = u0 + 11 ∨ lb = va) := hF49.tr ((hF61.mono (fun lb j h => by omega)).tr (hUx.mono (fun lb j h => by omega)))
          have hl : lv_has ls 6 [(0, .ref (G41_2.ad u0)), (1, .ref (G41_2.ad la)), (2, .ref (G41_2.ad va)), (3, .int (nI (cntN (ful tab (tm tab)) (q + 1)))), (4, .int (nI q)), (5, .int (nI (tm tab)))] := by rw [cntN, if_neg hnf]; exact hl
          refine lv_aload_n hE.1 hE.2.1 dX8_fillTerms_150 rfl (lv_at hl 2 rfl) ?_
          refine lv_aload_n hE.1 hE.2.1 dX8_fillTerms_151 rfl (lv_at hl 1 rfl) ?_
          refine rg_NV (As := [.ref (G41_2.ad va), .ref (G41_2.ad la)]) (rest := []) hE hml hH mc_X8_54 (c_stepOn l z G41_2 iv4 jv41_2 va la (tm tab) wva wla (by omega) hm1 hm5 (g1 tab) (fun i hi => ⟨Nat.succ_pos _, by have := hk.2.2.1 i hi; show tf tab i + 1 ≤ 7; omega⟩) q hva4 (fun i hi => (hF4 _ _ (by omega)).trans (hla i hi))) rfl ⟨Nat.le_of_ble_eq_true rfl, Nat.le_of_ble_eq_true rfl⟩ rfl hl.1 (by simp [Value.category]) dX8_fillTerms_152 ⟨by show 0 + 1 + 1 + 0 ≤ 2; omega, by show 0 + (tm tab) + (tm tab) + 0 ≤ 10; omega⟩ (fun G152 iv152 jv152 H locs hp152 hH => ?_)
          obtain ⟨rfl, rfl, hv152, hF152⟩ := hp152
          have hto5 : ∀ i, i < tm tab → ∀ p, p < q + 1 → iv152 (u0 + 4 + i) p = nI (vOf (g1 tab) (tm tab) p i) := fun i hi p hp => (hF152 _ _ (by omega)).trans (hto4 i hi p hp)
          have htc5 : ∀ p, p < q + 1 → iv152 (u0 + 10) p = nI (tld tab p) ∧ iv152 (u0 + 11) p = cof tab p := fun p hp => ⟨(hF152 _ _ (by omega)).trans (htc4 p hp).1, (hF152 _ _ (by omega)).trans (htc4 p hp).2⟩
          have hzz5 : ∀ p, q + 1 ≤ p → iv152 (u0 + 10) p = 0 := fun p hp => (hF152 _ _ (by omega)).trans (hzz4 p hp)
          have hF5 := hF4.tr (hF152.mono (P' := (fun lb _ => (u0 + 4 ≤ lb ∧ lb < u0 + 9) ∨ lb = u0 + 10 ∨ lb = u0 + 11 ∨ lb = va)) (fun lb j h => by omega))
          refine lv_iinc (v := nI (q + 1)) (lv' := [(4, .int (nI (q + 1))), (0, .ref (G41_2.ad u0)), (1, .ref (G41_2.ad la)), (2, .ref (G41_2.ad va)), (3, .int (nI (cntN (ful tab (tm tab)) (q + 1)))), (5, .int (nI (tm tab)))]) hE.1 hE.2.1 dX8_fillTerms_155 hl (k := 4) rfl (nI_1 _) (by decide) rfl (fun ls hl => ?_)
          refine lv_goto (tgt := 49) hE.1 hE.2.1 dX8_fillTerms_158 (by decide) ?_
          exact ih49 (iv152, q + 1) _ _ _ (show tT tab - (q + 1) < tT tab - q by omega) ⟨by show q + 1 ≤ tT tab; omega, hv152, hto5, htc5, hzz5, hF5⟩ (lv_sub hl [1, 2, 3, 4, 0] rfl) hH
        · have hfu := tld_ful.mp c136
          refine lv_aload_n hE.1 hE.2.1 dX8_fillTerms_139 rfl (lv_at hl 0 rfl) ?_
          refine rg_getr hE hH cf_X8 fl_X8_35 rfl (wu0.1) (wu0.2) (v := u0 + 11) (s5) dX8_fillTerms_140 ?_
          refine lv_iload hE.1 hE.2.1 dX8_fillTerms_143 (lv_at hl 4 rfl) ?_
          refine lv_iload_n hE.1 hE.2.1 dX8_fillTerms_145 rfl (lv_at hl 3 rfl) ?_
          refine rg_iast hE hH (hB11.1) (hB11.2.1) (by omega) (v := nI (cntN (ful tab (tm tab)) q)) dX8_fillTerms_146 (fun H locs hH => ?_)
          refine lv_iinc (v := nI (cntN (ful tab (tm tab)) q + 1)) (lv' := [(3, .int (nI (cntN (ful tab (tm tab)) q + 1))), (0, .ref (G41_2.ad u0)), (1, .ref (G41_2.ad la)), (2, .ref (G41_2.ad va)), (4, .int (nI q)), (5, .int (nI (tm tab)))]) hE.1 hE.2.1 dX8_fillTerms_147 hl (k := 3) rfl (nI_1 _) (by decide) rfl (fun ls hl => ?_)
          have hUx : Fr iv3 (up2 (up2 iv3 (u0 + 11) q (-1)) (u0 + 11) q (nI (cntN (ful tab (tm tab)) q))) (fun lb j => lb = u0 + 11 ∧ j = q) := Fr.up (Fr.up Fr.rf ⟨rfl, rfl⟩) ⟨rfl, rfl⟩
          have h11 : (up2 (up2 iv3 (u0 + 11) q (-1)) (u0 + 11) q (nI (cntN (ful tab (tm tab)) q))) (u0 + 11) q = cof tab q := up2_s.trans (cof_t hfu).symm
          generalize up2 (up2 iv3 (u0 + 11) q (-1)) (u0 + 11) q (nI (cntN (ful tab (tm tab)) q)) = iv4 at hH hUx h11
          have hto4 : ∀ i, i < tm tab → ∀ p, p < q + 1 → iv4 (u0 + 4 + i) p = nI (vOf (g1 tab) (tm tab) p i) := fun i hi p hp => by
            by_cases hpq : p = q
            · subst hpq; exact (hUx _ _ (by omega)).trans (hto3 i hi)
            · exact (hUx _ _ (by omega)).trans ((hF61 _ _ (by omega)).trans (hto i hi p (by omega)))
          have htc4 : ∀ p, p < q + 1 → iv4 (u0 + 10) p = nI (tld tab p) ∧ iv4 (u0 + 11) p = cof tab p := fun p hp => by
            by_cases hpq : p = q
            · subst hpq; exact ⟨(hUx _ _ (by omega)).trans htc3, h11⟩
            · exact ⟨(hUx _ _ (by omega)).trans ((hF61 _ _ (by omega)).trans (htc p (by omega)).1), (hUx _ _ (by omega)).trans ((hF61 _ _ (by omega)).trans (htc p (by omega)).2)⟩
          have hzz4 : ∀ p, q + 1 ≤ p → iv4 (u0 + 10) p = 0 := fun p hp => (hUx _ _ (by omega)).trans ((hF61 _ _ (by omega)).trans (hzz p (by omega)))
          have hva4 : ∀ i, i < tm tab → iv4 va i = nI (vOf (g1 tab) (tm tab) q i) := fun i hi => (hUx _ _ (by omega)).trans ((hF61 _ _ (by omega)).trans (hva i hi))
          have hF4 : Fr iv41_2 iv4 (fun lb _ => (u0 + 4 ≤ lb ∧ lb < u0 + 9) ∨ lb = u0 + 10 ∨ lb = u0 + 11 ∨ lb = va) := hF49.tr ((hF61.mono (fun lb j h => by omega)).tr (hUx.mono (fun lb j h => by omega)))
          have hl : lv_has ls 6 [(3, .int (nI (cntN (ful tab (tm tab)) (q + 1)))), (0, .ref (G41_2.ad u0)), (1, .ref (G41_2.ad la)), (2, .ref (G41_2.ad va)), (4, .int (nI q)), (5, .int (nI (tm tab)))] := by rw [cntN, if_pos hfu]; exact hl
          refine lv_aload_n hE.1 hE.2.1 dX8_fillTerms_150 rfl (lv_at hl 3 rfl) ?_
          refine lv_aload_n hE.1 hE.2.1 dX8_fillTerms_151 rfl (lv_at hl 2 rfl) ?_
          refine rg_NV (As := [.ref (G41_2.ad va), .ref (G41_2.ad la)]) (rest := []) hE hml hH mc_X8_54 (c_stepOn l z G41_2 iv4 jv41_2 va la (tm tab) wva wla (by omega) hm1 hm5 (g1 tab) (fun i hi => ⟨Nat.succ_pos _, by have := hk.2.2.1 i hi; show tf tab i + 1 ≤ 7; omega⟩) q hva4 (fun i hi => (hF4 _ _ (by omega)).trans (hla i hi))) rfl ⟨Nat.le_of_ble_eq_true rfl, Nat.le_of_ble_eq_true rfl⟩ rfl hl.1 (by simp [Value.category]) dX8_fillTerms_152 ⟨by show 0 + 1 + 1 + 0 ≤ 2; omega, by show 0 + (tm tab) + (tm tab) + 0 ≤ 10; omega⟩ (fun G152 iv152 jv152 H locs hp152 hH => ?_)
          obtain ⟨rfl, rfl, hv152, hF152⟩ := hp152
          have hto5 : ∀ i, i < tm tab → ∀ p, p < q + 1 → iv152 (u0 + 4 + i) p = nI (vOf (g1 tab) (tm tab) p i) := fun i hi p hp => (hF152 _ _ (by omega)).trans (hto4 i hi p hp)
          have htc5 : ∀ p, p < q + 1 → iv152 (u0 + 10) p = nI (tld tab p) ∧ iv152 (u0 + 11) p = cof tab p := fun p hp => ⟨(hF152 _ _ (by omega)).trans (htc4 p hp).1, (hF152 _ _ (by omega)).trans (htc4 p hp).2⟩
          have hzz5 : ∀ p, q + 1 ≤ p → iv152 (u0 + 10) p = 0 := fun p hp => (hF152 _ _ (by omega)).trans (hzz4 p hp)
          have hF5 := hF4.tr (hF152.mono (P' := (fun lb _ => (u0 + 4 ≤ lb ∧ lb < u0 + 9) ∨ lb = u0 + 10 ∨ lb = u0 + 11 ∨ lb = va)) (fun lb j h => by omega))
          refine lv_iinc (v := nI (q + 1)) (lv' := [(4, .int (nI (q + 1))), (3, .int (nI (cntN (ful tab (tm tab)) (q + 1)))), (0, .ref (G41_2.ad u0)), (1, .ref (G41_2.ad la)), (2, .ref (G41_2.ad va)), (5, .int (nI (tm tab)))]) hE.1 hE.2.1 dX8_fillTerms_155 hl (k := 4) rfl (nI_1 _) (by decide) rfl (fun ls hl => ?_)
          refine lv_goto (tgt := 49) hE.1 hE.2.1 dX8_fillTerms_158 (by decide) ?_
          exact ih49 (iv152, q + 1) _ _ _ (show tT tab - (q + 1) < tT tab - q by omega) ⟨by show q + 1 ≤ tT tab; omega, hv152, hto5, htc5, hzz5, hF5⟩ (lv_sub hl [2, 3, 4, 1, 0] rfl) hH
      · have hfi := hk.2.2.1 i (by omega)
        have hdi : vOf (g1 tab) (tm tab) q i < tf tab i + 1 := Nat.mod_lt _ (Nat.succ_pos _)
        have lBi : G41_2.ln (u0 + 4 + i) = tT tab := (hBi i (by omega)).1.2.2
        refine lv_aload_n hE.1 hE.2.1 dX8_fillTerms_71 rfl (lv_at hl 0 rfl) ?_
        refine rg_getr hE hH cf_X8 fl_X8_29 rfl (wu0.1) (wu0.2) (v := u0 + 3) (s3) dX8_fillTerms_72 ?_
        refine lv_iload hE.1 hE.2.1 dX8_fillTerms_75 (lv_at hl 5 rfl) ?_
        refine rg_aldr hE hH (hB3.1) (hB3.2.1) (by decide) (by decide) (by omega) (v := u0 + 4 + i) ((hBi i (by omega)).2) dX8_fillTerms_77 ?_
        refine lv_iload hE.1 hE.2.1 dX8_fillTerms_78 (lv_at hl 4 rfl) ?_
        refine lv_aload_n hE.1 hE.2.1 dX8_fillTerms_80 rfl (lv_at hl 2 rfl) ?_
        refine lv_iload hE.1 hE.2.1 dX8_fillTerms_81 (lv_at hl 5 rfl) ?_
        refine rg_iald hE hH (wva.1) (wva.2.1) (by omega) (v := nI (vOf (g1 tab) (tm tab) q i)) ((hF61 _ _ (by omega)).trans (hva i (by omega))) dX8_fillTerms_83 ?_
        refine rg_iast hE hH ((hBi i (by omega)).1.1) ((hBi i (by omega)).1.2.1) (by omega) (v := nI (vOf (g1 tab) (tm tab) q i)) dX8_fillTerms_84 (fun H locs hH => ?_)
        have hU84 : Fr iv3 (up2 iv3 (u0 + 4 + i) q (nI (vOf (g1 tab) (tm tab) q i))) (fun lb j => lb = u0 + 4 + i ∧ j = q) := Fr.up Fr.rf ⟨rfl, rfl⟩
        have hto4 : ∀ k, k < i + 1 → (up2 iv3 (u0 + 4 + i) q (nI (vOf (g1 tab) (tm tab) q i))) (u0 + 4 + k) q = nI (vOf (g1 tab) (tm tab) q k) := fun k hk => by
          by_cases hki : k = i
          · subst hki; exact up2_s
          · rw [up2_l (by omega)]; exact hto3 k (by omega)
        have hF4 : Fr iv2 (up2 iv3 (u0 + 4 + i) q (nI (vOf (g1 tab) (tm tab) q i))) (fun lb j => ((u0 + 4 ≤ lb ∧ lb < u0 + 9) ∨ lb = u0 + 10) ∧ j = q) := Fr.up hF61 ⟨Or.inl ⟨by omega, by omega⟩, rfl⟩
        refine lv_aload_n hE.1 hE.2.1 dX8_fillTerms_85 rfl (lv_at hl 2 rfl) ?_
        refine lv_iload hE.1 hE.2.1 dX8_fillTerms_86 (lv_at hl 5 rfl) ?_
        refine rg_iald hE hH (wva.1) (wva.2.1) (by omega) (v := nI (vOf (g1 tab) (tm tab) q i)) ((hU84 _ _ (by omega)).trans ((hF61 _ _ (by omega)).trans (hva i (by omega)))) dX8_fillTerms_88 ?_
        refine lv_aload_n hE.1 hE.2.1 dX8_fillTerms_89 rfl (lv_at hl 0 rfl) ?_
        refine rg_getr hE hH cf_X8 fl_X8_15 rfl (wu0.1) (wu0.2) (v := u0 + 1) (s0) dX8_fillTerms_90 ?_
        refine lv_iload hE.1 hE.2.1 dX8_fillTerms_93 (lv_at hl 5 rfl) ?_
        refine rg_iald hE hH (hB1.1) (hB1.2.1) (by omega) (v := nI (tf tab i)) ((hU84 _ _ (by omega)).trans ((hF61 _ _ (by omega)).trans ((hF49 _ _ (by omega)).trans (hTs i (by omega)).1))) dX8_fillTerms_95 ?_
        refine rn_icmp_ge (tgt := 110) hE dX8_fillTerms_96 (by decide) (by omega) (by omega) (fun c96 => ?_) (fun c96 => ?_)
        · refine lv_iinc (v := nI (i + 1)) (lv' := [(5, .int (nI (i + 1))), (0, .ref (G41_2.ad u0)), (1, .ref (G41_2.ad la)), (2, .ref (G41_2.ad va)), (3, .int (nI (cntN (ful tab (tm tab)) q))), (4, .int (nI q))]) hE.1 hE.2.1 dX8_fillTerms_110 hl (k := 5) rfl (nI_1 _) (by decide) rfl (fun ls hl => ?_)
          refine lv_goto (tgt := 61) hE.1 hE.2.1 dX8_fillTerms_113 (by decide) ?_
          exact ih61 (up2 iv3 (u0 + 4 + i) q (nI (vOf (g1 tab) (tm tab) q i)), i + 1) _ _ _ (show tm tab - (i + 1) < tm tab - i by omega) ⟨by show i + 1 ≤ tm tab; omega, hto4, by rw [cntN, if_neg (by rw [tAt_some, decide_eq_true_eq]; omega)]; exact (hU84 _ _ (by omega)).trans htc3, hF4⟩ (lv_sub hl [1, 2, 3, 4, 5, 0] rfl) hH
        · refine lv_aload_n hE.1 hE.2.1 dX8_fillTerms_99 rfl (lv_at hl 0 rfl) ?_
          refine rg_getr hE hH cf_X8 fl_X8_32 rfl (wu0.1) (wu0.2) (v := u0 + 10) (s4) dX8_fillTerms_100 ?_
          refine lv_iload hE.1 hE.2.1 dX8_fillTerms_103 (lv_at hl 4 rfl) ?_
          refine lv_dup2_11 hE.1 hE.2.1 dX8_fillTerms_105 rfl rfl ?_
          refine rg_iald hE hH (hB10.1) (hB10.2.1) (by omega) (v := nI (cntN (fun i => (tAt tab q i).isSome) i)) ((hU84 _ _ (by omega)).trans htc3) dX8_fillTerms_106 ?_
          refine lv_iconst (v := nI 1) hE.1 hE.2.1 dX8_fillTerms_107 (by decide) ?_
          refine rn_iadd hE dX8_fillTerms_108 ?_
          refine rg_iast hE hH (hB10.1) (hB10.2.1) (by omega) (v := nI (cntN (fun i => (tAt tab q i).isSome) i + 1)) dX8_fillTerms_109 (fun H locs hH => ?_)
          refine lv_iinc (v := nI (i + 1)) (lv' := [(5, .int (nI (i + 1))), (0, .ref (G41_2.ad u0)), (1, .ref (G41_2.ad la)), (2, .ref (G41_2.ad va)), (3, .int (nI (cntN (ful tab (tm tab)) q))), (4, .int (nI q))]) hE.1 hE.2.1 dX8_fillTerms_110 hl (k := 5) rfl (nI_1 _) (by decide) rfl (fun ls hl => ?_)
          refine lv_goto (tgt := 61) hE.1 hE.2.1 dX8_fillTerms_113 (by decide) ?_
          exact ih61 (up2 (up2 iv3 (u0 + 4 + i) q (nI (vOf (g1 tab) (tm tab) q i))) (u0 + 10) q (nI (cntN (fun i => (tAt tab q i).isSome) i + 1)), i + 1) _ _ _ (show tm tab - (i + 1) < tm tab - i by omega) ⟨by show i + 1 ≤ tm tab; omega, fun k hk => by dsimp only; rw [up2_l (by omega)]; exact hto4 k hk, by dsimp only; rw [cntN, if_pos (by rw [tAt_some, decide_eq_true_eq]; omega)]; exact up2_s, Fr.up hF4 ⟨Or.inr rfl, rfl⟩⟩ (lv_sub hl [1, 2, 3, 4, 5, 0] rfl) hH
  · have hfi := hk.2.2.1 i (by omega)
    refine lv_aload_n hE.1 hE.2.1 dX8_fillTerms_19 rfl (lv_at hl 1 rfl) ?_
    refine lv_iload_n hE.1 hE.2.1 dX8_fillTerms_20 rfl (lv_at hl 2 rfl) ?_
    refine lv_aload_n hE.1 hE.2.1 dX8_fillTerms_21 rfl (lv_at hl 0 rfl) ?_
    refine rg_getr hE hH cf_X8 fl_X8_15 rfl (wu0.1) (wu0.2) (v := u0 + 1) (s0) dX8_fillTerms_22 ?_
    refine lv_iload_n hE.1 hE.2.1 dX8_fillTerms_25 rfl (lv_at hl 2 rfl) ?_
    refine rg_iald hE hH (hB1.1) (hB1.2.1) (by rw [hB1.2.2]; omega) (v := nI (tf tab i)) ((hF10 _ _ (by omega)).trans (hTs i (by omega)).1) dX8_fillTerms_26 ?_
    refine lv_iconst (v := nI 1) hE.1 hE.2.1 dX8_fillTerms_27 (by decide) ?_
    refine rn_iadd hE dX8_fillTerms_28 ?_
    refine rg_iast hE hH (wla.1) (wla.2.1) (by rw [wla.2.2]; omega) (v := nI (tf tab i + 1)) dX8_fillTerms_29 (fun H locs hH => ?_)
    refine lv_iinc (v := nI (i + 1)) (lv' := [(2, .int (nI (i + 1))), (0, .ref (G5_1.ad u0)), (1, .ref (G5_1.ad la))]) hE.1 hE.2.1 dX8_fillTerms_30 hl (k := 2) rfl (nI_1 _) (by decide) rfl (fun ls hl => ?_)
    refine lv_goto (tgt := 10) hE.1 hE.2.1 dX8_fillTerms_33 (by decide) ?_
    exact ih10 (up2 iv2 la i (nI (tf tab i + 1)), i + 1) _ _ _ (show tm tab - (i + 1) < tm tab - i by omega) ⟨by show i + 1 ≤ tm tab; omega, fun k hk => by
      dsimp only at hk ⊢
      by_cases hki : k = i
      · subst hki; exact up2_s
      · rw [up2_k (by omega)]; exact hla k (by omega), Fr.up hF10 rfl⟩ (lv_sub hl [1, 2, 0] rfl) hH
