set_option maxRecDepth 100000 in
set_option maxHeartbeats 4000000 in
theorem c_takeUp (l : Launch) (z : ZK) (G : GW) (hG : isM G) (iv : IV) (jv : JV) (T : Nat) (hT : T < 6) (tab : Tab) (hk : tabOK tab) (hB : TABL iv T tab) (t : Nat) (ht : t < 2147483648) : cI l z yX11_takeUp cX11_takeUp 5 (some .int) 1 25 0 0 [.ref (G.ad 0), .int (nI T), .int (nI t)] G iv jv (fun r' G' iv' jv' => G = G' ∧ jv = jv' ∧ r' = nI (tld tab t) ∧ TLS iv' tab t ∧ Fr iv iv' (fun lb _ => lb = 37)) := by
  intro sz
  refine rg_entry rfl (Nat.le_of_ble_eq_true rfl) ?_
  intro pq eq sq mq bq methq cq ls hE hr hlk hml hnm hl hsz hH
  have hl : lv_has ls 5 [(0, .ref (G.ad 0)), (1, .int (nI T)), (2, .int (nI t))] := hl
  have h8 := hB.f.1
  have h10 := hB.f.2.1
  have h9 := hB.f.2.2.1
  have h13 := hB.f.2.2.2.1
  have h14 := hB.f.2.2.2.2.1
  have hm5 := hk.2.1
  have hm1 := hk.1
  have hC := hk.2.2.2.1
  have hR40 := hk.2.2.2.2.2.2.1
  refine lv_iconst (v := nI 0) hE.1 hE.2.1 dX11_takeUp_0 (by decide) ?_
  refine lv_istore_n (lv' := [(3, .int (nI 0)), (0, .ref (G.ad 0)), (1, .int (nI T)), (2, .int (nI t))]) hE.1 hE.2.1 dX11_takeUp_1 rfl hl (by decide) rfl (fun ls hl => ?_)
  refine lv_iconst (v := nI 0) hE.1 hE.2.1 dX11_takeUp_2 (by decide) ?_
  refine lv_istore (lv' := [(4, .int (nI 0)), (3, .int (nI 0)), (0, .ref (G.ad 0)), (1, .int (nI T)), (2, .int (nI t))]) hE.1 hE.2.1 dX11_takeUp_3 hl (by decide) rfl (fun ls hl => ?_)
  refine rg_loop (σ := IV × Nat) (nL := 5) (fun (u : IV × Nat) => match u with | (iv1, i) => tm tab - i) (fun (u : IV × Nat) => match u with | (iv1, i) => [(0, .ref (G.ad 0)), (1, .int (nI T)), (2, .int (nI t)), (3, .int (nI (cntN (fun i => (tAt tab t i).isSome) i))), (4, .int (nI i))]) (fun (u : IV × Nat) => match u with | (iv1, i) => G) (fun (u : IV × Nat) => match u with | (iv1, i) => iv1) (fun (u : IV × Nat) => match u with | (iv1, i) => jv) (fun (u : IV × Nat) => match u with | (iv1, i) => i ≤ tm tab ∧ (∀ j, j < i → iv1 37 j = oI (tAt tab t j)) ∧ Fr iv iv1 (fun lb _ => lb = 37)) ?_ ((iv, 0)) ⟨Nat.zero_le _, fun j hj => absurd hj (Nat.not_lt_zero j), Fr.rf⟩ (lv_sub hl [2, 3, 4, 1, 0] rfl) hH
  rintro ⟨iv1, i⟩ H locs ls ⟨him, htl, hFr⟩ hl hH ih5
  try dsimp only at hl hH ih5
  try dsimp only at him htl hFr
  have hB := INS.f2 ‹TABL iv T tab› hFr (fun _ _ h => by omega)
  have h8 := hB.f.1
  refine lv_iload hE.1 hE.2.1 dX11_takeUp_5 (lv_at hl 4 rfl) ?_
  refine lv_aload_n hE.1 hE.2.1 dX11_takeUp_7 rfl (lv_at hl 0 rfl) ?_
  refine rm_getr hE hH hG fl_X11_20 rfl (by decide) dX11_takeUp_8 ?_
  refine lv_iload_n hE.1 hE.2.1 dX11_takeUp_11 rfl (lv_at hl 1 rfl) ?_
  refine rm_iald hE hH hG (k := 8) (by decide) rfl (N := 6) rfl (n := T) (by omega) (v := nI (tm tab)) (h8) dX11_takeUp_12 ?_
  refine rn_icmp_ge (tgt := 56) hE dX11_takeUp_13 (by decide) (by omega) (by omega) (fun c13 => ?_) (fun c13 => ?_)
  · refine lv_iload_n hE.1 hE.2.1 dX11_takeUp_56 rfl (lv_at hl 3 rfl) ?_
    exact rg_iret hE hr rfl hlk hH ⟨rfl, rfl, by rw [tld, show tm tab = i by omega], fun j hj => htl j (by omega), hFr⟩ dX11_takeUp_57
  · refine lv_aload_n hE.1 hE.2.1 dX11_takeUp_16 rfl (lv_at hl 0 rfl) ?_
    refine rm_getr hE hH hG fl_X11_81 rfl (by decide) dX11_takeUp_17 ?_
    refine lv_iload hE.1 hE.2.1 dX11_takeUp_20 (lv_at hl 4 rfl) ?_
    refine lv_aload_n hE.1 hE.2.1 dX11_takeUp_22 rfl (lv_at hl 0 rfl) ?_
    refine lv_iload_n hE.1 hE.2.1 dX11_takeUp_23 rfl (lv_at hl 1 rfl) ?_
    refine lv_iload_n hE.1 hE.2.1 dX11_takeUp_24 rfl (lv_at hl 2 rfl) ?_
    refine lv_iload hE.1 hE.2.1 dX11_takeUp_25 (lv_at hl 4 rfl) ?_
    refine rg_VI (As := [.int (nI T), .int (nI t), .int (nI i)]) (rest := [.int (nI i), .ref (G.ad 37)]) hE hml hH mc_X11_250 (c_termAt l z G hG iv1 jv T hT tab hk hB t i (by omega) (by omega)) hG.1.1 hG.1.2 (by decide) rfl ⟨Nat.le_of_ble_eq_true rfl, Nat.le_of_ble_eq_true rfl⟩ rfl hl.1 (by simp [Value.category]) dX11_takeUp_27 ⟨Nat.le_of_ble_eq_true rfl, Nat.le_of_ble_eq_true rfl⟩ (fun r27 G27 iv27 jv27 H locs hp27 hH => ?_)
    obtain ⟨rfl, rfl, rfl, rfl⟩ := hp27
    refine rm_iast hE hH hG (k := 37) (by decide) rfl (N := 5) rfl (n := i) (by omega) (v := oI (tAt tab t i)) dX11_takeUp_30 (fun H locs hH => ?_)
    refine lv_iload_n hE.1 hE.2.1 dX11_takeUp_31 rfl (lv_at hl 3 rfl) ?_
    refine lv_aload_n hE.1 hE.2.1 dX11_takeUp_32 rfl (lv_at hl 0 rfl) ?_
    refine rm_getr hE hH hG fl_X11_81 rfl (by decide) dX11_takeUp_33 ?_
    refine lv_iload hE.1 hE.2.1 dX11_takeUp_36 (lv_at hl 4 rfl) ?_
    refine rm_iald hE hH hG (k := 37) (by decide) rfl (N := 5) rfl (n := i) (by omega) (v := oI (tAt tab t i)) (up2_s) dX11_takeUp_38 ?_
    refine lv_iconst (v := -1) hE.1 hE.2.1 dX11_takeUp_39 (by decide) ?_
    refine lv_icmp_ne (tgt := 47) hE.1 hE.2.1 dX11_takeUp_40 (by decide) (fun c40 => ?_) (fun c40 => ?_)
    · have hsm : (tAt tab t i).isSome = true := by
        cases h : tAt tab t i with
        | none => rw [h] at c40; exact absurd rfl c40
        | some k => rfl
      refine lv_iconst (v := nI 1) hE.1 hE.2.1 dX11_takeUp_47 (by decide) ?_
      refine rn_iadd hE dX11_takeUp_48 ?_
      refine rn_as (v' := nI (cntN (fun i => (tAt tab t i).isSome) (i + 1))) (by rw [cntN, hsm]; rfl) ?_
      refine lv_istore_n (lv' := [(3, .int (nI (cntN (fun i => (tAt tab t i).isSome) (i + 1)))), (0, .ref (G.ad 0)), (1, .int (nI T)), (2, .int (nI t)), (4, .int (nI i))]) hE.1 hE.2.1 dX11_takeUp_49 rfl hl (by decide) rfl (fun ls hl => ?_)
      refine lv_iinc (v := nI (i + 1)) (lv' := [(4, .int (nI (i + 1))), (3, .int (nI (cntN (fun i => (tAt tab t i).isSome) (i + 1)))), (0, .ref (G.ad 0)), (1, .int (nI T)), (2, .int (nI t))]) hE.1 hE.2.1 dX11_takeUp_50 hl (k := 4) rfl (nI_1 _) (by decide) rfl (fun ls hl => ?_)
      refine lv_goto (tgt := 5) hE.1 hE.2.1 dX11_takeUp_53 (by decide) ?_
      exact ih5 (up2 iv1 37 i (oI (tAt tab t i)), i + 1) _ _ _ (show tm tab - (i + 1) < tm tab - i by omega) ⟨by show i + 1 ≤ tm tab; omega, fun j hj => by
        dsimp only
        by_cases hji : j = i
        · subst hji; exact up2_s
        · rw [up2_k hji]; exact htl j (by dsimp only at hj; omega), Fr.up hFr rfl⟩ (lv_sub hl [2, 3, 4, 1, 0] rfl) hH
    · rw [oI_m1 (tAt_s hk (by omega))] at c40
      refine lv_iconst (v := nI 0) hE.1 hE.2.1 dX11_takeUp_43 (by decide) ?_
      refine lv_goto (tgt := 48) hE.1 hE.2.1 dX11_takeUp_44 (by decide) ?_
      refine rn_iadd hE dX11_takeUp_48 ?_
      refine rn_as (v' := nI (cntN (fun i => (tAt tab t i).isSome) (i + 1))) (by rw [cntN, c40]; rfl) ?_
      refine lv_istore_n (lv' := [(3, .int (nI (cntN (fun i => (tAt tab t i).isSome) (i + 1)))), (0, .ref (G.ad 0)), (1, .int (nI T)), (2, .int (nI t)), (4, .int (nI i))]) hE.1 hE.2.1 dX11_takeUp_49 rfl hl (by decide) rfl (fun ls hl => ?_)
      refine lv_iinc (v := nI (i + 1)) (lv' := [(4, .int (nI (i + 1))), (3, .int (nI (cntN (fun i => (tAt tab t i).isSome) (i + 1)))), (0, .ref (G.ad 0)), (1, .int (nI T)), (2, .int (nI t))]) hE.1 hE.2.1 dX11_takeUp_50 hl (k := 4) rfl (nI_1 _) (by decide) rfl (fun ls hl => ?_)
      refine lv_goto (tgt := 5) hE.1 hE.2.1 dX11_takeUp_53 (by decide) ?_
      exact ih5 (up2 iv1 37 i (oI (tAt tab t i)), i + 1) _ _ _ (show tm tab - (i + 1) < tm tab - i by omega) ⟨by show i + 1 ≤ tm tab; omega, fun j hj => by
        dsimp only
        by_cases hji : j = i
        · subst hji; exact up2_s
        · rw [up2_k hji]; exact htl j (by dsimp only at hj; omega), Fr.up hFr rfl⟩ (lv_sub hl [2, 3, 4, 1, 0] rfl) hH
set_option maxRecDepth 100000 in
set_option maxHeartbeats 4000000 in
theorem c_holds (l : Launch) (z : ZK) (G : GW) (hG : isM G) (iv : IV) (jv : JV) (T : Nat) (hT : T < 6) (tab : Tab) (hk : tabOK tab) (hB : TABL iv T tab) (t c : Nat) (hc : c < 400) (htl : TLS iv tab t) (hdg : ∀ i, i < tm tab → iv 38 (5 * c + i) = nI (vOf (tf tab) (tm tab) c i)) : cI l z yX11_holds cX11_holds 4 (some .boolean) 0 0 0 0 [.ref (G.ad 0), .int (nI T), .int (nI c)] G iv jv (fun r' G' iv' jv' => G = G' ∧ iv = iv' ∧ jv = jv' ∧ r' = bI (hld tab t c)) := by
  intro sz
  refine rg_entry rfl (Nat.le_of_ble_eq_true rfl) ?_
  intro pq eq sq mq bq methq cq ls hE hr hlk hml hnm hl hsz hH
  have hl : lv_has ls 4 [(0, .ref (G.ad 0)), (1, .int (nI T)), (2, .int (nI c))] := hl
  have h8 := hB.f.1
  have h10 := hB.f.2.1
  have h9 := hB.f.2.2.1
  have h13 := hB.f.2.2.2.1
  have h14 := hB.f.2.2.2.2.1
  have hm5 := hk.2.1
  have hm1 := hk.1
  have hC := hk.2.2.2.1
  have hR40 := hk.2.2.2.2.2.2.1
  refine lv_iconst (v := nI 0) hE.1 hE.2.1 dX11_holds_0 (by decide) ?_
  refine lv_istore_n (lv' := [(3, .int (nI 0)), (0, .ref (G.ad 0)), (1, .int (nI T)), (2, .int (nI c))]) hE.1 hE.2.1 dX11_holds_1 rfl hl (by decide) rfl (fun ls hl => ?_)
  refine rg_loop (σ := Nat) (nL := 4) (fun (i : Nat) => tm tab - i) (fun (i : Nat) => [(0, .ref (G.ad 0)), (1, .int (nI T)), (2, .int (nI c)), (3, .int (nI i))]) (fun (i : Nat) => G) (fun (i : Nat) => iv) (fun (i : Nat) => jv) (fun (i : Nat) => i ≤ tm tab ∧ ∀ j, j < i → tAt tab t j = none ∨ tAt tab t j = some (vOf (tf tab) (tm tab) c j)) ?_ (0) ⟨Nat.zero_le _, fun j hj => absurd hj (Nat.not_lt_zero j)⟩ (lv_sub hl [1, 2, 3, 0] rfl) hH
  rintro i H locs ls ⟨him, hall⟩ hl hH ih2
  try dsimp only at hl hH ih2
  refine lv_iload_n hE.1 hE.2.1 dX11_holds_2 rfl (lv_at hl 3 rfl) ?_
  refine lv_aload_n hE.1 hE.2.1 dX11_holds_3 rfl (lv_at hl 0 rfl) ?_
  refine rm_getr hE hH hG fl_X11_20 rfl (by decide) dX11_holds_4 ?_
  refine lv_iload_n hE.1 hE.2.1 dX11_holds_7 rfl (lv_at hl 1 rfl) ?_
  refine rm_iald hE hH hG (k := 8) (by decide) rfl (N := 6) rfl (n := T) (by omega) (v := nI (tm tab)) (h8) dX11_holds_8 ?_
  refine rn_icmp_ge (tgt := 49) hE dX11_holds_9 (by decide) (by omega) (by omega) (fun c9 => ?_) (fun c9 => ?_)
  · refine lv_iconst (v := nI 1) hE.1 hE.2.1 dX11_holds_49 (by decide) ?_
    exact rg_iret hE hr (nz_1) hlk hH ⟨rfl, rfl, rfl, one_bI (by rw [hld, decide_eq_true_eq]; exact fun j hj => hall j (by omega))⟩ dX11_holds_50
  · refine lv_aload_n hE.1 hE.2.1 dX11_holds_12 rfl (lv_at hl 0 rfl) ?_
    refine rm_getr hE hH hG fl_X11_81 rfl (by decide) dX11_holds_13 ?_
    refine lv_iload_n hE.1 hE.2.1 dX11_holds_16 rfl (lv_at hl 3 rfl) ?_
    refine rm_iald hE hH hG (k := 37) (by decide) rfl (N := 5) rfl (n := i) (by omega) (v := oI (tAt tab t i)) (htl i (by omega)) dX11_holds_17 ?_
    refine lv_iconst (v := -1) hE.1 hE.2.1 dX11_holds_18 (by decide) ?_
    refine lv_icmp_eq (tgt := 43) hE.1 hE.2.1 dX11_holds_19 (by decide) (fun c19 => ?_) (fun c19 => ?_)
    · rw [oI_m1 (tAt_s hk (by omega))] at c19
      refine lv_iinc (v := nI (i + 1)) (lv' := [(3, .int (nI (i + 1))), (0, .ref (G.ad 0)), (1, .int (nI T)), (2, .int (nI c))]) hE.1 hE.2.1 dX11_holds_43 hl (k := 3) rfl (nI_1 _) (by decide) rfl (fun ls hl => ?_)
      refine lv_goto (tgt := 2) hE.1 hE.2.1 dX11_holds_46 (by decide) ?_
      exact ih2 (i + 1) _ _ _ (by omega) ⟨by omega, fun j hj => by
        by_cases hji : j = i
        · subst hji; exact Or.inl c19
        · exact hall j (by omega)⟩ (lv_sub hl [1, 2, 3, 0] rfl) hH
    · rw [oI_m1 (tAt_s hk (by omega))] at c19
      refine lv_aload_n hE.1 hE.2.1 dX11_holds_22 rfl (lv_at hl 0 rfl) ?_
      refine rm_getr hE hH hG fl_X11_81 rfl (by decide) dX11_holds_23 ?_
      refine lv_iload_n hE.1 hE.2.1 dX11_holds_26 rfl (lv_at hl 3 rfl) ?_
      refine rm_iald hE hH hG (k := 37) (by decide) rfl (N := 5) rfl (n := i) (by omega) (v := oI (tAt tab t i)) (htl i (by omega)) dX11_holds_27 ?_
      refine lv_aload_n hE.1 hE.2.1 dX11_holds_28 rfl (lv_at hl 0 rfl) ?_
      refine rm_getr hE hH hG fl_X11_84 rfl (by decide) dX11_holds_29 ?_
      refine lv_iconst (v := nI 5) hE.1 hE.2.1 dX11_holds_32 (by decide) ?_
      refine lv_iload_n hE.1 hE.2.1 dX11_holds_33 rfl (lv_at hl 2 rfl) ?_
      refine rn_imul hE dX11_holds_34 ?_
      refine lv_iload_n hE.1 hE.2.1 dX11_holds_35 rfl (lv_at hl 3 rfl) ?_
      refine rn_iadd hE dX11_holds_36 ?_
      refine rm_iald hE hH hG (k := 38) (by decide) rfl (N := 2000) rfl (n := 5 * c + i) (by omega) (v := oI (some (vOf (tf tab) (tm tab) c i))) (hdg i (by omega)) dX11_holds_37 ?_
      refine lv_icmp_eq (tgt := 43) hE.1 hE.2.1 dX11_holds_38 (by decide) (fun c38 => ?_) (fun c38 => ?_)
      · rw [oI_inj (tAt_s hk (by omega)) (fun k hk2 => by cases hk2; have := vOf_lt hk (c := c) (i := i) (by omega); omega)] at c38
        refine lv_iinc (v := nI (i + 1)) (lv' := [(3, .int (nI (i + 1))), (0, .ref (G.ad 0)), (1, .int (nI T)), (2, .int (nI c))]) hE.1 hE.2.1 dX11_holds_43 hl (k := 3) rfl (nI_1 _) (by decide) rfl (fun ls hl => ?_)
        refine lv_goto (tgt := 2) hE.1 hE.2.1 dX11_holds_46 (by decide) ?_
        exact ih2 (i + 1) _ _ _ (by omega) ⟨by omega, fun j hj => by
          by_cases hji : j = i
          · subst hji; exact Or.inr c38
          · exact hall j (by omega)⟩ (lv_sub hl [1, 2, 3, 0] rfl) hH
      · rw [oI_inj (tAt_s hk (by omega)) (fun k hk2 => by cases hk2; have := vOf_lt hk (c := c) (i := i) (by omega); omega)] at c38
        refine lv_iconst (v := nI 0) hE.1 hE.2.1 dX11_holds_41 (by decide) ?_
        exact rg_iret hE hr (nz_0) hlk hH ⟨rfl, rfl, rfl, zero_bI (by rw [hld, decide_eq_false_iff_not]; exact fun h => (h i (by omega)).elim c19 c38)⟩ dX11_holds_42
set_option maxRecDepth 100000 in
set_option maxHeartbeats 4000000 in
theorem c_sortTerms (l : Launch) (z : ZK) (G : GW) (hG : isM G) (iv : IV) (jv : JV) (T : Nat) (hT : T < 6) (tab : Tab) (hFT : FT iv T tab) : cV l z yX11_sortTerms cX11_sortTerms 6 none 2 49 0 0 [.ref (G.ad 0), .int (nI T)] G iv jv (fun G' iv' jv' => G = G' ∧ jv = jv' ∧ SRT iv' tab ∧ Fr iv iv' (fun lb _ => 37 ≤ lb ∧ lb ≤ 40)) := by
  intro sz
  refine rg_entry rfl (Nat.le_of_ble_eq_true rfl) ?_
  intro pq eq sq mq bq methq cq ls hE hr hlk hml hnm hl hsz hH
  have hl : lv_has ls 6 [(0, .ref (G.ad 0)), (1, .int (nI T))] := hl
  have hB := hFT.1
  have hk := hFT.2.1
  have hA := hFT.2.2
  have h8 := hB.f.1
  have h10 := hB.f.2.1
  have h9 := hB.f.2.2.1
  have h13 := hB.f.2.2.2.1
  have h14 := hB.f.2.2.2.2.1
  have hm5 := hk.2.1
  have hm1 := hk.1
  have hC := hk.2.2.2.1
  have hR40 := hk.2.2.2.2.2.2.1
  have htT8 := tT_le hk
  refine lv_aload_n hE.1 hE.2.1 dX11_sortTerms_0 rfl (lv_at hl 0 rfl) ?_
  refine lv_iload_n hE.1 hE.2.1 dX11_sortTerms_1 rfl (lv_at hl 1 rfl) ?_
  refine rg_VI (As := [.int (nI T)]) (rest := []) hE hml hH mc_X11_205 (c_casesOf l z G hG iv jv T (tm tab) hT hm5 (tf tab) h8 h10) hG.1.1 hG.1.2 (by decide) rfl ⟨Nat.le_of_ble_eq_true rfl, Nat.le_of_ble_eq_true rfl⟩ rfl hl.1 (by simp [Value.category]) dX11_sortTerms_2 ⟨Nat.le_of_ble_eq_true rfl, Nat.le_of_ble_eq_true rfl⟩ (fun r2 G2 iv2 jv2 H locs hp2 hH => ?_)
  obtain ⟨rfl, rfl, rfl, rfl⟩ := hp2
  refine rn_as (v' := nI (tC tab)) rfl ?_
  refine lv_istore_n (lv' := [(2, .int (nI (tC tab))), (0, .ref (G.ad 0)), (1, .int (nI T))]) hE.1 hE.2.1 dX11_sortTerms_5 rfl hl (by decide) rfl (fun ls hl => ?_)
  refine lv_iconst (v := nI 0) hE.1 hE.2.1 dX11_sortTerms_6 (by decide) ?_
  refine lv_istore_n (lv' := [(3, .int (nI 0)), (2, .int (nI (tC tab))), (0, .ref (G.ad 0)), (1, .int (nI T))]) hE.1 hE.2.1 dX11_sortTerms_7 rfl hl (by decide) rfl (fun ls hl => ?_)
  refine rg_loop (σ := IV × Nat) (nL := 6) (fun (u : IV × Nat) => match u with | (iv1, c) => tC tab - c) (fun (u : IV × Nat) => match u with | (iv1, c) => [(0, .ref (G.ad 0)), (1, .int (nI T)), (2, .int (nI (tC tab))), (3, .int (nI c))]) (fun (u : IV × Nat) => match u with | (iv1, c) => G) (fun (u : IV × Nat) => match u with | (iv1, c) => iv1) (fun (u : IV × Nat) => match u with | (iv1, c) => jv) (fun (u : IV × Nat) => match u with | (iv1, c) => c ≤ tC tab ∧ (∀ d, d < c → iv1 40 d = oI (ans tab d)) ∧ (∀ d i, d < c → i < tm tab → iv1 38 (5 * d + i) = nI (vOf (tf tab) (tm tab) d i)) ∧ Fr iv iv1 (fun lb _ => 37 ≤ lb ∧ lb ≤ 40)) ?_ ((iv, 0)) ⟨Nat.zero_le _, fun j hj => absurd hj (Nat.not_lt_zero j), fun d i hj => absurd hj (Nat.not_lt_zero d), Fr.rf⟩ (lv_sub hl [2, 3, 1, 0] rfl) hH
  rintro ⟨iv1, c⟩ H locs ls ⟨hcC, han, hdg, hFr⟩ hl hH ih8
  try dsimp only at hl hH ih8
  try dsimp only at hcC han hdg hFr
  have hFT := FT.fr ‹FT iv T tab› hFr (fun _ _ h => by omega)
  have hB := hFT.1
  have h8 := hB.f.1
  have h10 := hB.f.2.1
  refine lv_iload_n hE.1 hE.2.1 dX11_sortTerms_8 rfl (lv_at hl 3 rfl) ?_
  refine lv_iload_n hE.1 hE.2.1 dX11_sortTerms_9 rfl (lv_at hl 2 rfl) ?_
  refine rn_icmp_ge (tgt := 70) hE dX11_sortTerms_10 (by decide) (by omega) (by omega) (fun c10 => ?_) (fun c10 => ?_)
  · have hcc : c = tC tab := by omega
    subst hcc
    refine lv_iconst (v := nI 0) hE.1 hE.2.1 dX11_sortTerms_70 (by decide) ?_
    refine lv_istore_n (lv' := [(3, .int (nI 0)), (0, .ref (G.ad 0)), (1, .int (nI T)), (2, .int (nI (tC tab)))]) hE.1 hE.2.1 dX11_sortTerms_71 rfl hl (by decide) rfl (fun ls hl => ?_)
    refine rg_loop (σ := IV × Nat) (nL := 6) (fun (u : IV × Nat) => match u with | (iv3, t) => tT tab - t) (fun (u : IV × Nat) => match u with | (iv3, t) => [(0, .ref (G.ad 0)), (1, .int (nI T)), (2, .int (nI (tC tab))), (3, .int (nI t))]) (fun (u : IV × Nat) => match u with | (iv3, t) => G) (fun (u : IV × Nat) => match u with | (iv3, t) => iv3) (fun (u : IV × Nat) => match u with | (iv3, t) => jv) (fun (u : IV × Nat) => match u with | (iv3, t) => t ≤ tT tab ∧ (∀ d, d < tC tab → iv3 40 d = oI (ans tab d)) ∧ (∀ d i, d < tC tab → i < tm tab → iv3 38 (5 * d + i) = nI (vOf (tf tab) (tm tab) d i)) ∧ (∀ j, j < t → iv3 39 j = toI tab j (tC tab)) ∧ Fr iv iv3 (fun lb _ => 37 ≤ lb ∧ lb ≤ 40)) ?_ ((iv1, 0)) ⟨Nat.zero_le _, han, hdg, fun j hj => absurd hj (Nat.not_lt_zero j), hFr⟩ (lv_sub hl [1, 2, 3, 0] rfl) hH
    rintro ⟨iv3, t⟩ H locs ls ⟨htT, han, hdg, hto, hFr⟩ hl hH ih72
    try dsimp only at hl hH ih72
    try dsimp only at htT han hdg hto hFr
    have hFT := FT.fr ‹FT iv T tab› hFr (fun _ _ h => by omega)
    have hB := hFT.1
    have h8 := hB.f.1
    have h10 := hB.f.2.1
    refine lv_iload_n hE.1 hE.2.1 dX11_sortTerms_72 rfl (lv_at hl 3 rfl) ?_
    refine lv_aload_n hE.1 hE.2.1 dX11_sortTerms_73 rfl (lv_at hl 0 rfl) ?_
    refine lv_iload_n hE.1 hE.2.1 dX11_sortTerms_74 rfl (lv_at hl 1 rfl) ?_
    refine rg_VI (As := [.int (nI T)]) (rest := [.int (nI t)]) hE hml hH mc_X11_256 (c_terms l z G hG iv3 jv T hT tab hk hB) hG.1.1 hG.1.2 (by decide) rfl ⟨Nat.le_of_ble_eq_true rfl, Nat.le_of_ble_eq_true rfl⟩ rfl hl.1 (by simp [Value.category]) dX11_sortTerms_75 ⟨Nat.le_of_ble_eq_true rfl, Nat.le_of_ble_eq_true rfl⟩ (fun r75 G75 iv75 jv75 H locs hp75 hH => ?_)
    obtain ⟨rfl, rfl, rfl, rfl⟩ := hp75
    refine rn_icmp_ge (tgt := 177) hE dX11_sortTerms_78 (by decide) (by omega) (by omega) (fun c78 => ?_) (fun c78 => ?_)
    · exact rg_vret hE hr hlk hH ⟨rfl, rfl, ⟨han, hdg, fun j hj => hto j (by omega)⟩, hFr⟩ dX11_sortTerms_177
    · refine lv_aload_n hE.1 hE.2.1 dX11_sortTerms_81 rfl (lv_at hl 0 rfl) ?_
      refine lv_iload_n hE.1 hE.2.1 dX11_sortTerms_82 rfl (lv_at hl 1 rfl) ?_
      refine lv_iload_n hE.1 hE.2.1 dX11_sortTerms_83 rfl (lv_at hl 3 rfl) ?_
      refine rg_VI (As := [.int (nI T), .int (nI t)]) (rest := []) hE hml hH mc_X11_259 (c_takeUp l z G hG iv3 jv T hT tab hk hB t (by omega)) hG.1.1 hG.1.2 (by decide) rfl ⟨Nat.le_of_ble_eq_true rfl, Nat.le_of_ble_eq_true rfl⟩ rfl hl.1 (by simp [Value.category]) dX11_sortTerms_84 ⟨Nat.le_of_ble_eq_true rfl, Nat.le_of_ble_eq_true rfl⟩ (fun r84 G84 iv84 jv84 H locs hp84 hH => ?_)
      obtain ⟨rfl, rfl, rfl, htl, hF84⟩ := hp84
      have han : ∀ d, d < tC tab → iv84 40 d = oI (ans tab d) := fun d hd => (hF84 40 _ (by simp)).trans (han d hd)
      have hdg : ∀ d i, d < tC tab → i < tm tab → iv84 38 (5 * d + i) = nI (vOf (tf tab) (tm tab) d i) := fun d i hd hi => (hF84 38 _ (by simp)).trans (hdg d i hd hi)
      have hto : ∀ j, j < t → iv84 39 j = toI tab j (tC tab) := fun j hj => (hF84 39 _ (by simp)).trans (hto j hj)
      have hFr := hFr.tr (hF84.mono (fun _ _ h => by omega))
      have hFT := FT.fr ‹FT iv T tab› hFr (fun _ _ h => by omega)
      have hB := hFT.1
      have h8 := hB.f.1
      have h10 := hB.f.2.1
      refine lv_pop hE.1 hE.2.1 dX11_sortTerms_87 rfl ?_
      refine lv_bipush (v := nI 6) hE.1 hE.2.1 dX11_sortTerms_88 (by decide) ?_
      refine lv_istore (lv' := [(4, .int (nI 6)), (0, .ref (G.ad 0)), (1, .int (nI T)), (2, .int (nI (tC tab))), (3, .int (nI t))]) hE.1 hE.2.1 dX11_sortTerms_90 hl (by decide) rfl (fun ls hl => ?_)
      refine lv_iconst (v := nI 0) hE.1 hE.2.1 dX11_sortTerms_92 (by decide) ?_
      refine lv_istore (lv' := [(5, .int (nI 0)), (4, .int (nI 6)), (0, .ref (G.ad 0)), (1, .int (nI T)), (2, .int (nI (tC tab))), (3, .int (nI t))]) hE.1 hE.2.1 dX11_sortTerms_93 hl (by decide) rfl (fun ls hl => ?_)
      refine rg_loop (σ := Nat) (nL := 6) (fun (c : Nat) => tC tab - c) (fun (c : Nat) => [(0, .ref (G.ad 0)), (1, .int (nI T)), (2, .int (nI (tC tab))), (3, .int (nI t)), (4, .int (toI tab t c)), (5, .int (nI c))]) (fun (c : Nat) => G) (fun (c : Nat) => iv84) (fun (c : Nat) => jv) (fun (c : Nat) => c ≤ tC tab) ?_ (0) (Nat.zero_le _) (lv_sub hl [2, 3, 4, 5, 1, 0] rfl) hH
      rintro c H locs ls hcC hl hH ih95
      try dsimp only at hl hH ih95
      refine lv_iload hE.1 hE.2.1 dX11_sortTerms_95 (lv_at hl 5 rfl) ?_
      refine lv_iload_n hE.1 hE.2.1 dX11_sortTerms_97 rfl (lv_at hl 2 rfl) ?_
      refine rn_icmp_ge (tgt := 163) hE dX11_sortTerms_98 (by decide) (by omega) (by omega) (fun c98 => ?_) (fun c98 => ?_)
      · refine lv_aload_n hE.1 hE.2.1 dX11_sortTerms_163 rfl (lv_at hl 0 rfl) ?_
        refine rm_getr hE hH hG fl_X11_87 rfl (by decide) dX11_sortTerms_164 ?_
        refine lv_iload_n hE.1 hE.2.1 dX11_sortTerms_167 rfl (lv_at hl 3 rfl) ?_
        refine lv_iload hE.1 hE.2.1 dX11_sortTerms_168 (lv_at hl 4 rfl) ?_
        refine rm_iast hE hH hG (k := 39) (by decide) rfl (N := 8000) rfl (n := t) (by omega) (v := toI tab t c) dX11_sortTerms_170 (fun H locs hH => ?_)
        refine lv_iinc (v := nI (t + 1)) (lv' := [(3, .int (nI (t + 1))), (0, .ref (G.ad 0)), (1, .int (nI T)), (2, .int (nI (tC tab))), (4, .int (toI tab t c)), (5, .int (nI c))]) hE.1 hE.2.1 dX11_sortTerms_171 hl (k := 3) rfl (nI_1 _) (by decide) rfl (fun ls hl => ?_)
        refine lv_goto (tgt := 72) hE.1 hE.2.1 dX11_sortTerms_174 (by decide) ?_
        exact ih72 (up2 iv84 39 t (toI tab t c), t + 1) _ _ _ (show tT tab - (t + 1) < tT tab - t by omega) ⟨by show t + 1 ≤ tT tab; omega, han, hdg, fun j hj => by
          dsimp only
          by_cases hjt : j = t
          · subst hjt; rw [up2_s, show tC tab = c by omega]
          · rw [up2_k hjt]; exact hto j (by dsimp only at hj; omega), Fr.up hFr ⟨by decide, by decide⟩⟩ (lv_sub hl [1, 2, 3, 0] rfl) hH
      · refine lv_aload_n hE.1 hE.2.1 dX11_sortTerms_101 rfl (lv_at hl 0 rfl) ?_
        refine rm_getr hE hH hG fl_X11_90 rfl (by decide) dX11_sortTerms_102 ?_
        refine lv_iload hE.1 hE.2.1 dX11_sortTerms_105 (lv_at hl 5 rfl) ?_
        refine rm_iald hE hH hG (k := 40) (by decide) rfl (N := 400) rfl (n := c) (by omega) (v := oI (ans tab c)) (han c (by omega)) dX11_sortTerms_107 ?_
        refine lv_iconst (v := -1) hE.1 hE.2.1 dX11_sortTerms_108 (by decide) ?_
        refine lv_icmp_eq (tgt := 157) hE.1 hE.2.1 dX11_sortTerms_109 (by decide) (fun c109 => ?_) (fun c109 => ?_)
        · rw [oI_m1 (ans_s hk)] at c109
          have hnext : toI tab t (c + 1) = toI tab t c := by rw [toI, c109]
          rw [← hnext] at hl
          have hl : lv_has ls 6 [(0, .ref (G.ad 0)), (1, .int (nI T)), (2, .int (nI (tC tab))), (3, .int (nI t)), (4, .int (toI tab t (c + 1))), (5, .int (nI c))] := hl
          refine lv_iinc (v := nI (c + 1)) (lv' := [(5, .int (nI (c + 1))), (0, .ref (G.ad 0)), (1, .int (nI T)), (2, .int (nI (tC tab))), (3, .int (nI t)), (4, .int (toI tab t (c + 1)))]) hE.1 hE.2.1 dX11_sortTerms_157 hl (k := 5) rfl (nI_1 _) (by decide) rfl (fun ls hl => ?_)
          refine lv_goto (tgt := 95) hE.1 hE.2.1 dX11_sortTerms_160 (by decide) ?_
          exact ih95 (c + 1) _ _ _ (by omega) (by omega) (lv_sub hl [1, 2, 3, 4, 5, 0] rfl) hH
        · obtain ⟨v, hv⟩ : ∃ v, ans tab c = some v := by
            cases h : ans tab c with
            | none => rw [h] at c109; exact absurd rfl c109
            | some v => exact ⟨v, rfl⟩
          refine lv_aload_n hE.1 hE.2.1 dX11_sortTerms_112 rfl (lv_at hl 0 rfl) ?_
          refine lv_iload_n hE.1 hE.2.1 dX11_sortTerms_113 rfl (lv_at hl 1 rfl) ?_
          refine lv_iload hE.1 hE.2.1 dX11_sortTerms_114 (lv_at hl 5 rfl) ?_
          refine rg_VI (As := [.int (nI T), .int (nI c)]) (rest := []) hE hml hH mc_X11_262 (c_holds l z G hG iv84 jv T hT tab hk hB t c (by omega) htl (fun i hi => hdg c i (by omega) hi)) hG.1.1 hG.1.2 (by decide) rfl ⟨Nat.le_of_ble_eq_true rfl, Nat.le_of_ble_eq_true rfl⟩ rfl hl.1 (by simp [Value.category]) dX11_sortTerms_116 ⟨Nat.le_of_ble_eq_true rfl, Nat.le_of_ble_eq_true rfl⟩ (fun r116 G116 iv116 jv116 H locs hp116 hH => ?_)
          obtain ⟨rfl, rfl, rfl, rfl⟩ := hp116
          refine rn_ifb_ne (tgt := 125) hE dX11_sortTerms_119 (by decide) (fun c119 => ?_) (fun c119 => ?_)
          · refine lv_iload hE.1 hE.2.1 dX11_sortTerms_125 (lv_at hl 4 rfl) ?_
            refine lv_bipush (v := nI 6) hE.1 hE.2.1 dX11_sortTerms_127 (by decide) ?_
            refine lv_icmp_eq (tgt := 144) hE.1 hE.2.1 dX11_sortTerms_129 (by decide) (fun c129 => ?_) (fun c129 => ?_)
            · have hnext : toI tab t (c + 1) = oI (ans tab c) := by rw [toI, hv]; simp only [c119, c129, true_or, if_true]; rfl
              refine lv_aload_n hE.1 hE.2.1 dX11_sortTerms_144 rfl (lv_at hl 0 rfl) ?_
              refine rm_getr hE hH hG fl_X11_90 rfl (by decide) dX11_sortTerms_145 ?_
              refine lv_iload hE.1 hE.2.1 dX11_sortTerms_148 (lv_at hl 5 rfl) ?_
              refine rm_iald hE hH hG (k := 40) (by decide) rfl (N := 400) rfl (n := c) (by omega) (v := oI (ans tab c)) (han c (by omega)) dX11_sortTerms_150 ?_
              refine rn_as (v' := toI tab t (c + 1)) (hnext.symm) ?_
              refine lv_goto (tgt := 155) hE.1 hE.2.1 dX11_sortTerms_151 (by decide) ?_
              refine lv_istore (lv' := [(4, .int (toI tab t (c + 1))), (0, .ref (G.ad 0)), (1, .int (nI T)), (2, .int (nI (tC tab))), (3, .int (nI t)), (5, .int (nI c))]) hE.1 hE.2.1 dX11_sortTerms_155 hl (by decide) rfl (fun ls hl => ?_)
              have hl : lv_has ls 6 [(4, .int (toI tab t (c + 1))), (0, .ref (G.ad 0)), (1, .int (nI T)), (2, .int (nI (tC tab))), (3, .int (nI t)), (5, .int (nI c))] := hl
              refine lv_iinc (v := nI (c + 1)) (lv' := [(5, .int (nI (c + 1))), (4, .int (toI tab t (c + 1))), (0, .ref (G.ad 0)), (1, .int (nI T)), (2, .int (nI (tC tab))), (3, .int (nI t))]) hE.1 hE.2.1 dX11_sortTerms_157 hl (k := 5) rfl (nI_1 _) (by decide) rfl (fun ls hl => ?_)
              refine lv_goto (tgt := 95) hE.1 hE.2.1 dX11_sortTerms_160 (by decide) ?_
              exact ih95 (c + 1) _ _ _ (by omega) (by omega) (lv_sub hl [2, 3, 4, 5, 1, 0] rfl) hH
            · refine lv_iload hE.1 hE.2.1 dX11_sortTerms_132 (lv_at hl 4 rfl) ?_
              refine lv_aload_n hE.1 hE.2.1 dX11_sortTerms_134 rfl (lv_at hl 0 rfl) ?_
              refine rm_getr hE hH hG fl_X11_90 rfl (by decide) dX11_sortTerms_135 ?_
              refine lv_iload hE.1 hE.2.1 dX11_sortTerms_138 (lv_at hl 5 rfl) ?_
              refine rm_iald hE hH hG (k := 40) (by decide) rfl (N := 400) rfl (n := c) (by omega) (v := oI (ans tab c)) (han c (by omega)) dX11_sortTerms_140 ?_
              refine lv_icmp_ne (tgt := 154) hE.1 hE.2.1 dX11_sortTerms_141 (by decide) (fun c141 => ?_) (fun c141 => ?_)
              · have hnext : toI tab t (c + 1) = -1 := by
                  rw [hv] at c141
                  rw [toI, hv]
                  simp only [c119, if_true]
                  rw [if_neg]
                  rintro (h | h)
                  · exact c129 h
                  · exact c141 h
                refine lv_iconst (v := -1) hE.1 hE.2.1 dX11_sortTerms_154 (by decide) ?_
                refine rn_as (v' := toI tab t (c + 1)) (hnext.symm) ?_
                refine lv_istore (lv' := [(4, .int (toI tab t (c + 1))), (0, .ref (G.ad 0)), (1, .int (nI T)), (2, .int (nI (tC tab))), (3, .int (nI t)), (5, .int (nI c))]) hE.1 hE.2.1 dX11_sortTerms_155 hl (by decide) rfl (fun ls hl => ?_)
                have hl : lv_has ls 6 [(4, .int (toI tab t (c + 1))), (0, .ref (G.ad 0)), (1, .int (nI T)), (2, .int (nI (tC tab))), (3, .int (nI t)), (5, .int (nI c))] := hl
                refine lv_iinc (v := nI (c + 1)) (lv' := [(5, .int (nI (c + 1))), (4, .int (toI tab t (c + 1))), (0, .ref (G.ad 0)), (1, .int (nI T)), (2, .int (nI (tC tab))), (3, .int (nI t))]) hE.1 hE.2.1 dX11_sortTerms_157 hl (k := 5) rfl (nI_1 _) (by decide) rfl (fun ls hl => ?_)
                refine lv_goto (tgt := 95) hE.1 hE.2.1 dX11_sortTerms_160 (by decide) ?_
                exact ih95 (c + 1) _ _ _ (by omega) (by omega) (lv_sub hl [2, 3, 4, 5, 1, 0] rfl) hH
              · have hnext : toI tab t (c + 1) = oI (ans tab c) := by
                  rw [hv] at c141 ⊢
                  rw [toI, hv]
                  simp only [c119, if_true]
                  have c142 : toI tab t c = nI v := c141
                  rw [if_pos (Or.inr c142)]; rfl
                refine lv_aload_n hE.1 hE.2.1 dX11_sortTerms_144 rfl (lv_at hl 0 rfl) ?_
                refine rm_getr hE hH hG fl_X11_90 rfl (by decide) dX11_sortTerms_145 ?_
                refine lv_iload hE.1 hE.2.1 dX11_sortTerms_148 (lv_at hl 5 rfl) ?_
                refine rm_iald hE hH hG (k := 40) (by decide) rfl (N := 400) rfl (n := c) (by omega) (v := oI (ans tab c)) (han c (by omega)) dX11_sortTerms_150 ?_
                refine rn_as (v' := toI tab t (c + 1)) (hnext.symm) ?_
                refine lv_goto (tgt := 155) hE.1 hE.2.1 dX11_sortTerms_151 (by decide) ?_
                refine lv_istore (lv' := [(4, .int (toI tab t (c + 1))), (0, .ref (G.ad 0)), (1, .int (nI T)), (2, .int (nI (tC tab))), (3, .int (nI t)), (5, .int (nI c))]) hE.1 hE.2.1 dX11_sortTerms_155 hl (by decide) rfl (fun ls hl => ?_)
                have hl : lv_has ls 6 [(4, .int (toI tab t (c + 1))), (0, .ref (G.ad 0)), (1, .int (nI T)), (2, .int (nI (tC tab))), (3, .int (nI t)), (5, .int (nI c))] := hl
                refine lv_iinc (v := nI (c + 1)) (lv' := [(5, .int (nI (c + 1))), (4, .int (toI tab t (c + 1))), (0, .ref (G.ad 0)), (1, .int (nI T)), (2, .int (nI (tC tab))), (3, .int (nI t))]) hE.1 hE.2.1 dX11_sortTerms_157 hl (k := 5) rfl (nI_1 _) (by decide) rfl (fun ls hl => ?_)
                refine lv_goto (tgt := 95) hE.1 hE.2.1 dX11_sortTerms_160 (by decide) ?_
                exact ih95 (c + 1) _ _ _ (by omega) (by omega) (lv_sub hl [2, 3, 4, 5, 1, 0] rfl) hH
          · have hnext : toI tab t (c + 1) = toI tab t c := by rw [toI, hv]; simp [c119]
            rw [← hnext] at hl
            refine lv_goto (tgt := 157) hE.1 hE.2.1 dX11_sortTerms_122 (by decide) ?_
            have hl : lv_has ls 6 [(0, .ref (G.ad 0)), (1, .int (nI T)), (2, .int (nI (tC tab))), (3, .int (nI t)), (4, .int (toI tab t (c + 1))), (5, .int (nI c))] := hl
            refine lv_iinc (v := nI (c + 1)) (lv' := [(5, .int (nI (c + 1))), (0, .ref (G.ad 0)), (1, .int (nI T)), (2, .int (nI (tC tab))), (3, .int (nI t)), (4, .int (toI tab t (c + 1)))]) hE.1 hE.2.1 dX11_sortTerms_157 hl (k := 5) rfl (nI_1 _) (by decide) rfl (fun ls hl => ?_)
            refine lv_goto (tgt := 95) hE.1 hE.2.1 dX11_sortTerms_160 (by decide) ?_
            exact ih95 (c + 1) _ _ _ (by omega) (by omega) (lv_sub hl [1, 2, 3, 4, 5, 0] rfl) hH
  · refine lv_aload_n hE.1 hE.2.1 dX11_sortTerms_13 rfl (lv_at hl 0 rfl) ?_
    refine rm_getr hE hH hG fl_X11_90 rfl (by decide) dX11_sortTerms_14 ?_
    refine lv_iload_n hE.1 hE.2.1 dX11_sortTerms_17 rfl (lv_at hl 3 rfl) ?_
    refine lv_aload_n hE.1 hE.2.1 dX11_sortTerms_18 rfl (lv_at hl 0 rfl) ?_
    refine lv_iload_n hE.1 hE.2.1 dX11_sortTerms_19 rfl (lv_at hl 1 rfl) ?_
    refine lv_iload_n hE.1 hE.2.1 dX11_sortTerms_20 rfl (lv_at hl 3 rfl) ?_
    refine rg_VI (As := [.int (nI T), .int (nI c)]) (rest := [.int (nI c), .ref (G.ad 40)]) hE hml hH mc_X11_253 (c_answerOf l z G hG iv1 jv T hT tab hFT c (by omega)) hG.1.1 hG.1.2 (by decide) rfl ⟨Nat.le_of_ble_eq_true rfl, Nat.le_of_ble_eq_true rfl⟩ rfl hl.1 (by simp [Value.category]) dX11_sortTerms_21 ⟨Nat.le_of_ble_eq_true rfl, Nat.le_of_ble_eq_true rfl⟩ (fun r21 G21 iv21 jv21 H locs hp21 hH => ?_)
    obtain ⟨rfl, rfl, rfl, rfl⟩ := hp21
    refine rm_iast hE hH hG (k := 40) (by decide) rfl (N := 400) rfl (n := c) (by omega) (v := oI (ans tab c)) dX11_sortTerms_24 (fun H locs hH => ?_)
    have han : ∀ d, d < c + 1 → (up2 iv1 40 c (oI (ans tab c))) 40 d = oI (ans tab d) := fun d hd => by
      by_cases hdc : d = c
      · subst hdc; exact up2_s
      · rw [up2_k hdc]; exact han d (by omega)
    have hFr : Fr iv (up2 iv1 40 c (oI (ans tab c))) (fun lb _ => 37 ≤ lb ∧ lb ≤ 40) := Fr.up hFr ⟨by decide, by decide⟩
    have hdg : ∀ d i, d < c → i < tm tab → (up2 iv1 40 c (oI (ans tab c))) 38 (5 * d + i) = nI (vOf (tf tab) (tm tab) d i) := hdg
    refine lv_iconst (v := nI 0) hE.1 hE.2.1 dX11_sortTerms_25 (by decide) ?_
    refine lv_istore (lv' := [(4, .int (nI 0)), (0, .ref (G.ad 0)), (1, .int (nI T)), (2, .int (nI (tC tab))), (3, .int (nI c))]) hE.1 hE.2.1 dX11_sortTerms_26 hl (by decide) rfl (fun ls hl => ?_)
    refine rg_loop (σ := IV × Nat) (nL := 6) (fun (u : IV × Nat) => match u with | (iv2, i) => tm tab - i) (fun (u : IV × Nat) => match u with | (iv2, i) => [(0, .ref (G.ad 0)), (1, .int (nI T)), (2, .int (nI (tC tab))), (3, .int (nI c)), (4, .int (nI i))]) (fun (u : IV × Nat) => match u with | (iv2, i) => G) (fun (u : IV × Nat) => match u with | (iv2, i) => iv2) (fun (u : IV × Nat) => match u with | (iv2, i) => jv) (fun (u : IV × Nat) => match u with | (iv2, i) => i ≤ tm tab ∧ (∀ d, d < c + 1 → iv2 40 d = oI (ans tab d)) ∧ (∀ d i, d < c → i < tm tab → iv2 38 (5 * d + i) = nI (vOf (tf tab) (tm tab) d i)) ∧ (∀ j, j < i → iv2 38 (5 * c + j) = nI (vOf (tf tab) (tm tab) c j)) ∧ Fr iv iv2 (fun lb _ => 37 ≤ lb ∧ lb ≤ 40)) ?_ ((up2 iv1 40 c (oI (ans tab c)), 0)) ⟨Nat.zero_le _, han, hdg, fun j hj => absurd hj (Nat.not_lt_zero j), hFr⟩ (lv_sub hl [1, 2, 3, 4, 0] rfl) hH
    rintro ⟨iv2, i⟩ H locs ls ⟨him, han, hdg, hd2, hFr⟩ hl hH ih28
    try dsimp only at hl hH ih28
    try dsimp only at him han hdg hd2 hFr
    have hFT := FT.fr ‹FT iv T tab› hFr (fun _ _ h => by omega)
    have hB := hFT.1
    have h8 := hB.f.1
    have h10 := hB.f.2.1
    refine lv_iload hE.1 hE.2.1 dX11_sortTerms_28 (lv_at hl 4 rfl) ?_
    refine lv_aload_n hE.1 hE.2.1 dX11_sortTerms_30 rfl (lv_at hl 0 rfl) ?_
    refine rm_getr hE hH hG fl_X11_20 rfl (by decide) dX11_sortTerms_31 ?_
    refine lv_iload_n hE.1 hE.2.1 dX11_sortTerms_34 rfl (lv_at hl 1 rfl) ?_
    refine rm_iald hE hH hG (k := 8) (by decide) rfl (N := 6) rfl (n := T) (by omega) (v := nI (tm tab)) (h8) dX11_sortTerms_35 ?_
    refine rn_icmp_ge (tgt := 64) hE dX11_sortTerms_36 (by decide) (by omega) (by omega) (fun c36 => ?_) (fun c36 => ?_)
    · refine lv_iinc (v := nI (c + 1)) (lv' := [(3, .int (nI (c + 1))), (0, .ref (G.ad 0)), (1, .int (nI T)), (2, .int (nI (tC tab))), (4, .int (nI i))]) hE.1 hE.2.1 dX11_sortTerms_64 hl (k := 3) rfl (nI_1 _) (by decide) rfl (fun ls hl => ?_)
      refine lv_goto (tgt := 8) hE.1 hE.2.1 dX11_sortTerms_67 (by decide) ?_
      exact ih8 (iv2, c + 1) _ _ _ (show tC tab - (c + 1) < tC tab - c by omega) ⟨by show c + 1 ≤ tC tab; omega, han, fun d i hd hi => by
        by_cases hdc : d = c
        · subst hdc; exact hd2 i (by omega)
        · exact hdg d i (by dsimp only at hd; omega) hi, hFr⟩ (lv_sub hl [1, 2, 3, 0] rfl) hH
    · refine lv_aload_n hE.1 hE.2.1 dX11_sortTerms_39 rfl (lv_at hl 0 rfl) ?_
      refine rm_getr hE hH hG fl_X11_84 rfl (by decide) dX11_sortTerms_40 ?_
      refine lv_iconst (v := nI 5) hE.1 hE.2.1 dX11_sortTerms_43 (by decide) ?_
      refine lv_iload_n hE.1 hE.2.1 dX11_sortTerms_44 rfl (lv_at hl 3 rfl) ?_
      refine rn_imul hE dX11_sortTerms_45 ?_
      refine lv_iload hE.1 hE.2.1 dX11_sortTerms_46 (lv_at hl 4 rfl) ?_
      refine rn_iadd hE dX11_sortTerms_48 ?_
      refine lv_aload_n hE.1 hE.2.1 dX11_sortTerms_49 rfl (lv_at hl 0 rfl) ?_
      refine lv_iload_n hE.1 hE.2.1 dX11_sortTerms_50 rfl (lv_at hl 1 rfl) ?_
      refine lv_iload_n hE.1 hE.2.1 dX11_sortTerms_51 rfl (lv_at hl 3 rfl) ?_
      refine lv_iload hE.1 hE.2.1 dX11_sortTerms_52 (lv_at hl 4 rfl) ?_
      refine rg_VI (As := [.int (nI T), .int (nI c), .int (nI i)]) (rest := [.int (nI (5 * c + i)), .ref (G.ad 38)]) hE hml hH mc_X11_240 (c_valueOf l z G hG iv2 jv T hT tab hk hB c i (by omega) (by omega)) hG.1.1 hG.1.2 (by decide) rfl ⟨Nat.le_of_ble_eq_true rfl, Nat.le_of_ble_eq_true rfl⟩ rfl hl.1 (by simp [Value.category]) dX11_sortTerms_54 ⟨Nat.le_of_ble_eq_true rfl, Nat.le_of_ble_eq_true rfl⟩ (fun r54 G54 iv54 jv54 H locs hp54 hH => ?_)
      obtain ⟨rfl, rfl, rfl, rfl⟩ := hp54
      refine rm_iast hE hH hG (k := 38) (by decide) rfl (N := 2000) rfl (n := 5 * c + i) (by omega) (v := nI (vOf (tf tab) (tm tab) c i)) dX11_sortTerms_57 (fun H locs hH => ?_)
      refine lv_iinc (v := nI (i + 1)) (lv' := [(4, .int (nI (i + 1))), (0, .ref (G.ad 0)), (1, .int (nI T)), (2, .int (nI (tC tab))), (3, .int (nI c))]) hE.1 hE.2.1 dX11_sortTerms_58 hl (k := 4) rfl (nI_1 _) (by decide) rfl (fun ls hl => ?_)
      refine lv_goto (tgt := 28) hE.1 hE.2.1 dX11_sortTerms_61 (by decide) ?_
      exact ih28 (up2 iv2 38 (5 * c + i) (nI (vOf (tf tab) (tm tab) c i)), i + 1) _ _ _ (show tm tab - (i + 1) < tm tab - i by omega) ⟨by show i + 1 ≤ tm tab; omega, han, fun d j hd hj => by dsimp only; rw [up2_k (by omega)]; exact hdg d j hd hj, fun j hj => by
        dsimp only
        by_cases hji : j = i
        · subst hji; exact up2_s
        · rw [up2_k (by omega)]; exact hd2 j (by dsimp only at hj; omega), Fr.up hFr ⟨by decide, by decide⟩⟩ (lv_sub hl [1, 2, 3, 4, 0] rfl) hH
