set_option maxRecDepth 100000 in
set_option maxHeartbeats 4000000 in
theorem c_sizes (l : Launch) (z : ZK) (G : GW) (iv : IV) (jv : JV) (b : Nat) (tab : Tab) (hk : tabOK tab) (hL : isLa G b) (hLy : LAY iv jv b tab) (n : Nat) (fn : n ∉ G.L) (kn : G.kd n = 13) (hdn : n < b ∨ b + 40 ≤ n) : cR l z yX1_sizes cX1_sizes 3 (some (.array .int)) 0 0 1 5 [.ref (G.ad b)] G iv jv (fun r G' iv' jv' => r = n ∧ EX G G' n (n + 1) ∧ isA G' n 13 (tm tab) ∧ (∀ i, i < tm tab → iv' n i = nI (tf tab i)) ∧ Fr iv iv' (fun lb _ => n ≤ lb ∧ lb < n + 1) ∧ FrJ jv jv' (fun lb _ => n ≤ lb ∧ lb < n + 1)) := by
  intro sz
  refine rg_entry rfl (Nat.le_of_ble_eq_true rfl) ?_
  intro pq eq sq mq bq methq cq ls hE hr hlk hml hnm hl hsz hH
  have hl : lv_has ls 3 [(0, .ref (G.ad b))] := hl
  have hm5 := hk.2.1
  have hm1 := hk.1
  have hC4 := hk.2.2.2.1
  have hR40 := hk.2.2.2.2.2.2.1
  have hT8 := tT_le hk
  have hLy0 := hLy
  have hEX : EX G G n (n + 1) := EX.rf
  have hFr : Fr iv iv (fun lb _ => n ≤ lb ∧ lb < n + 1) := Fr.rf
  have hFj : FrJ jv jv (fun lb _ => n ≤ lb ∧ lb < n + 1) := FrJ.rf
  refine lv_aload_n hE.1 hE.2.1 dX1_sizes_0 rfl (lv_at hl 0 rfl) ?_
  refine rg_geti hE hH cf_X1 fl_X1_9 rfl (hL.1.1) (hL.1.2) (v := nI (tm tab)) (hLy.1.1) dX1_sizes_1 ?_
  refine rg_newI (ty := .int) rfl hE hH (n) fn kn (Or.inr (Or.inl ⟨rfl, rfl⟩)) (by omega) (by show 0 + 1 ≤ 1; omega) (by show 0 + (tm tab) ≤ 5; omega) dX1_sizes_4 (fun G4_1 H hX4_1 hln4_1 hrv4_1 hH => ?_)
  have hS4_1 := hX4_1.ex1 fn
  have wn : isA G4_1 (n) 13 (tm tab) := ⟨hX4_1.new (List.mem_singleton_self _), hX4_1.kd kn, hln4_1⟩
  have hl : lv_has ls 3 [(0, .ref (G4_1.ad b))] := by rw [hS4_1.adm (hL.1.1)]; exact hl
  have hL := hL.e hS4_1 (by omega)
  have kn : G4_1.kd n = 13 := by rw [EX_kd hS4_1]; exact kn
  have hEX := hEX.tr (hS4_1.mono (c := n) (d := n + 1) (dle n (a := 0) (c := 0) (by decide)) (dle n (a := 1) (c := 1) (by decide)))
  have hU4_1 : Fr iv (clr iv (n) 0) (fun b0 _ => b0 = n) := Fr.clr Fr.rf (fun _ => rfl)
  have hJ4_1 : FrJ jv (clr jv (n) 0) (fun b0 _ => b0 = n) := FrJ.clr FrJ.rf (fun _ => rfl)
  have hLy := hLy.fr2 hU4_1 hJ4_1 (fun lb j _ _ => by omega) (fun lb j _ _ => by omega)
  have hFr := hFr.tr (hU4_1.mono (P' := fun lb _ => n ≤ lb ∧ lb < n + 1) (fun lb j h => by rw [h]; exact ⟨dle n (a := 0) (c := 0) (by decide), dl n (a := 0) (c := 1) (by decide)⟩))
  have hFj := hFj.tr (hJ4_1.mono (P' := fun lb _ => n ≤ lb ∧ lb < n + 1) (fun lb j h => by rw [h]; exact ⟨dle n (a := 0) (c := 0) (by decide), dl n (a := 0) (c := 1) (by decide)⟩))
  generalize clr iv (n) 0 = iv4_1 at hH hFr hU4_1 hLy
  generalize clr jv (n) 0 = jv4_1 at hH hFj hJ4_1 hLy
  refine lv_astore_n (lv' := [(1, .ref (G4_1.ad n)), (0, .ref (G4_1.ad b))]) hE.1 hE.2.1 dX1_sizes_6 rfl hl (by decide) rfl (fun ls hl => ?_)
  refine lv_iconst (v := nI 0) hE.1 hE.2.1 dX1_sizes_7 (by decide) ?_
  refine lv_istore_n (lv' := [(2, .int (nI 0)), (1, .ref (G4_1.ad n)), (0, .ref (G4_1.ad b))]) hE.1 hE.2.1 dX1_sizes_8 rfl hl (by decide) rfl (fun ls hl => ?_)
  refine rg_loop (σ := IV × Nat) (nL := 3) (fun (u : IV × Nat) => match u with | (iv2, i) => tm tab - i) (fun (u : IV × Nat) => match u with | (iv2, i) => [(0, .ref (G4_1.ad b)), (1, .ref (G4_1.ad n)), (2, .int (nI i))]) (fun (u : IV × Nat) => match u with | (iv2, i) => G4_1) (fun (u : IV × Nat) => match u with | (iv2, i) => iv2) (fun (u : IV × Nat) => match u with | (iv2, i) => jv4_1) (fun (u : IV × Nat) => match u with | (iv2, i) => i ≤ tm tab ∧ (∀ k, k < i → iv2 n k = nI (tf tab k)) ∧ Fr iv iv2 (fun lb _ => n ≤ lb ∧ lb < n + 1)) ?_ ((iv4_1, 0)) ⟨Nat.zero_le _, fun k hk => absurd hk (Nat.not_lt_zero k), hFr⟩ (lv_sub hl [2, 1, 0] rfl) hH
  rintro ⟨iv2, i⟩ H locs ls ⟨him, hsz, hFr⟩ hl hH ih9
  try dsimp only at hl hH ih9
  try dsimp only at him hsz hFr
  have hLy := LAY.fr2 (iv' := iv2) hLy0 hFr hFj (fun lb j _ _ => by omega) (fun lb j _ _ => by omega)
  refine lv_iload_n hE.1 hE.2.1 dX1_sizes_9 rfl (lv_at hl 2 rfl) ?_
  refine lv_aload_n hE.1 hE.2.1 dX1_sizes_10 rfl (lv_at hl 0 rfl) ?_
  refine rg_geti hE hH cf_X1 fl_X1_9 rfl (hL.1.1) (hL.1.2) (v := nI (tm tab)) (hLy.1.1) dX1_sizes_11 ?_
  refine rn_icmp_ge (tgt := 35) hE dX1_sizes_14 (by decide) (by omega) (by omega) (fun c14 => ?_) (fun c14 => ?_)
  · have hie : i = tm tab := by omega
    subst hie
    refine lv_aload_n hE.1 hE.2.1 dX1_sizes_35 rfl (lv_at hl 1 rfl) ?_
    refine W.widen (k := 1) (n := 5) (by show 0 + 1 ≤ 1; omega) (by show 0 + (tm tab) ≤ 5; omega) ?_
    exact rg_aret hE hr (Or.inr ⟨_, rfl⟩) hlk hH ⟨rfl, hEX, wn, hsz, hFr, hFj⟩ dX1_sizes_36
  · have hfi := hk.2.2.1 i (by omega)
    refine lv_aload_n hE.1 hE.2.1 dX1_sizes_17 rfl (lv_at hl 1 rfl) ?_
    refine lv_iload_n hE.1 hE.2.1 dX1_sizes_18 rfl (lv_at hl 2 rfl) ?_
    refine lv_aload_n hE.1 hE.2.1 dX1_sizes_19 rfl (lv_at hl 0 rfl) ?_
    refine rg_getr hE hH cf_X1 fl_X1_20 rfl (hL.1.1) (hL.1.2) (v := b + 1) (hL.2.2.2.2.1) dX1_sizes_20 ?_
    refine lv_iload_n hE.1 hE.2.1 dX1_sizes_23 rfl (lv_at hl 2 rfl) ?_
    refine rg_aldr hE hH (hL.2.1.1) (hL.2.1.2.1) (by decide) (by decide) (by rw [hL.2.1.2.2]; omega) (v := b + 10 + 2 * i) (hL.2.2.2.2.2.1 i (by omega)) dX1_sizes_24 ?_
    refine rg_geti hE hH cf_X0 fl_X1_36 rfl ((hL.2.2.1 i (by omega)).1.1) ((hL.2.2.1 i (by omega)).1.2) (v := nI (tf tab i)) (hLy.sz (by omega)) dX1_sizes_25 ?_
    refine rg_iast hE hH (wn.1) (wn.2.1) (by rw [wn.2.2]; omega) (v := nI (tf tab i)) dX1_sizes_28 (fun H locs hH => ?_)
    refine lv_iinc (v := nI (i + 1)) (lv' := [(2, .int (nI (i + 1))), (0, .ref (G4_1.ad b)), (1, .ref (G4_1.ad n))]) hE.1 hE.2.1 dX1_sizes_29 hl (k := 2) rfl (nI_1 _) (by decide) rfl (fun ls hl => ?_)
    refine lv_goto (tgt := 9) hE.1 hE.2.1 dX1_sizes_32 (by decide) ?_
    exact ih9 (up2 iv2 n i (nI (tf tab i)), i + 1) _ _ _ (show tm tab - (i + 1) < tm tab - i by omega) ⟨by show i + 1 ≤ tm tab; omega, fun k hk => by
      dsimp only at hk ⊢
      by_cases hki : k = i
      · subst hki; exact up2_s
      · rw [up2_k (by omega)]; exact hsz k (by omega), Fr.up hFr ⟨by omega, by omega⟩⟩ (lv_sub hl [1, 2, 0] rfl) hH
set_option maxRecDepth 100000 in
set_option maxHeartbeats 4000000 in
theorem c_Tm_init (l : Launch) (z : ZK) (G : GW) (iv : IV) (jv : JV) (b : Nat) (tab : Tab) (hk : tabOK tab) (hL : isLa G b) (hLy : LAY iv jv b tab) (u0 : Nat) (wu0 : u0 ∈ G.L ∧ G.kd u0 = 8) (hfr : ∀ x, u0 + 1 ≤ x → x < u0 + 15 → x ∉ G.L) (hkd : ∀ i, i < 15 → G.kd (u0 + i) = kTb (20 + i)) (hub : b + 40 ≤ u0) : cV l z yX8_init cX8_init 4 none 1 22 13 75000 [.ref (G.ad u0), .ref (G.ad b)] G iv jv (fun G' iv' jv' => EX G G' u0 (u0 + 15) ∧ isTm G' u0 (tm tab) (tC tab) (tT tab) ∧ (∀ i, i < tm tab → iv' (u0 + 1) i = nI (tf tab i) ∧ iv' (u0 + 2) i = nI (st (g1 tab) (tm tab) i)) ∧ iv' u0 2 = nI (tT tab) ∧ (∀ j, iv' (u0 + 10) j = 0) ∧ Fr iv iv' (fun lb _ => u0 ≤ lb ∧ lb < u0 + 15) ∧ FrJ jv jv' (fun lb _ => u0 ≤ lb ∧ lb < u0 + 15)) := by
  intro sz
  refine rg_entry rfl (Nat.le_of_ble_eq_true rfl) ?_
  intro pq eq sq mq bq methq cq ls hE hr hlk hml hnm hl hsz hH
  have hl : lv_has ls 4 [(0, .ref (G.ad u0)), (1, .ref (G.ad b))] := hl
  have hm5 := hk.2.1
  have hm1 := hk.1
  have hC4 := hk.2.2.2.1
  have hR40 := hk.2.2.2.2.2.2.1
  have hT8 := tT_le hk
  have hmT := Nat.mul_le_mul hm5 hT8
  have hEX : EX G G u0 (u0 + 15) := EX.rf
  have hFr : Fr iv iv (fun lb _ => u0 ≤ lb ∧ lb < u0 + 15) := Fr.rf
  have hFj : FrJ jv jv (fun lb _ => u0 ≤ lb ∧ lb < u0 + 15) := FrJ.rf
  refine lv_aload_n hE.1 hE.2.1 dX8_init_0 rfl (lv_at hl 0 rfl) ?_
  refine rg_obj (rest := []) hE ⟨(b3 35 rfl rfl), (b1 30 rfl rfl), (b1 31 rfl rfl)⟩ hml hl.1 rfl dX8_init_1 (Nat.le_of_ble_eq_true rfl) (Nat.le_of_ble_eq_true rfl) ?_
  refine lv_aload_n hE.1 hE.2.1 dX8_init_4 rfl (lv_at hl 0 rfl) ?_
  refine lv_aload_n hE.1 hE.2.1 dX8_init_5 rfl (lv_at hl 1 rfl) ?_
  refine rg_VR (As := []) (rest := [.ref (G.ad u0)]) hE hml hH mc_X8_9 (c_sizes l z G iv jv b tab hk hL hLy (u0 + 1) (hfr (u0 + 1) (by omega) (by omega)) (hkd 1 (by omega)) (by omega)) (hL.1.1) (hL.1.2) (by decide) rfl ⟨Nat.le_of_ble_eq_true rfl, Nat.le_of_ble_eq_true rfl⟩ rfl hl.1 (by simp [Value.category]) dX8_init_6 ⟨by show 0 + 1 ≤ 13; omega, by show 0 + 5 ≤ 75000; omega⟩ (fun r6 G6 iv6 jv6 H locs hp6 hH => ?_)
  obtain ⟨rfl, hS6_1, wu0_1, hsz, hU6_1, hJ6_1⟩ := hp6
  have hl : lv_has ls 4 [(0, .ref (G6.ad u0)), (1, .ref (G6.ad b))] := by rw [hS6_1.adm (wu0.1), hS6_1.adm (hL.1.1)]; exact hl
  refine rg_st (st' := [.ref (G6.ad (u0 + 1)), .ref (G6.ad u0)]) (by rw [hS6_1.adm (wu0.1)]) ?_
  have hL := hL.e hS6_1 (by omega)
  have wu0 := And.intro (hS6_1.mem wu0.1) (hS6_1.kd wu0.2)
  have hfr : ∀ x, u0 + 2 ≤ x → x < u0 + 15 → x ∉ G6.L := fun x h1 h2 => hS6_1.nin (hfr x (by omega) h2) (by omega)
  have hkd : ∀ i, i < 15 → G6.kd (u0 + i) = kTb (20 + i) := by rw [EX_kd hS6_1]; exact hkd
  have hEX := hEX.tr (hS6_1.mono (c := u0) (d := u0 + 15) (by omega) (by omega))
  have hLy := hLy.fr2 hU6_1 hJ6_1 (fun lb j _ _ => by omega) (fun lb j _ _ => by omega)
  have hFr := hFr.tr (hU6_1.mono (P' := fun lb _ => u0 ≤ lb ∧ lb < u0 + 15) (fun lb j h => by omega))
  have hFj := hFj.tr (hJ6_1.mono (P' := fun lb _ => u0 ≤ lb ∧ lb < u0 + 15) (fun lb j h => by omega))
  refine rg_putrF hE hH cf_X8 fl_X8_15 rfl fn_X8_0 fo_X8_0 hnm (wu0.1) (wu0.2) (v := u0 + 1) (wu0_1.1) dX8_init_9 (fun H locs hH => ?_)
  have hX9_2 := GX.set (G := G6) (lb := u0) (k := 0) (v := some (u0 + 1))
  have hS9_2 := EX.set (G := G6) (lb := u0) (k := 0) (v := some (u0 + 1))
  have qu0_0 := setR_s (G := G6) (lb := u0) (k := 0) (v := some (u0 + 1))
  generalize (G6.setR (up2 G6.rv u0 0 (some (u0 + 1)))) = G9_2 at hH hX9_2 hS9_2 qu0_0
  have hl : lv_has ls 4 [(0, .ref (G9_2.ad u0)), (1, .ref (G9_2.ad b))] := by rw [hS9_2.adm (wu0.1), hS9_2.adm (hL.1.1)]; exact hl
  have hL := hL.e hS9_2 (by omega)
  have wu0 := And.intro (hS9_2.mem wu0.1) (hS9_2.kd wu0.2)
  have hfr : ∀ x, u0 + 2 ≤ x → x < u0 + 15 → x ∉ G9_2.L := fun x h1 h2 => hS9_2.nin (hfr x (Nat.le_trans (dle u0 (a := 2) (c := 2) (by decide)) h1) h2) (Or.inr (Nat.le_trans (dle u0 (a := 1) (c := 2) (by decide)) h1))
  have hkd : ∀ i, i < 15 → G9_2.kd (u0 + i) = kTb (20 + i) := by rw [EX_kd hS9_2]; exact hkd
  have wu0_1 := wu0_1.em hS9_2
  have hEX := hEX.tr (hS9_2.mono (c := u0) (d := u0 + 15) (dle u0 (a := 0) (c := 0) (by decide)) (dle u0 (a := 1) (c := 15) (by decide)))
  refine lv_aload_n hE.1 hE.2.1 dX8_init_12 rfl (lv_at hl 0 rfl) ?_
  refine lv_aload_n hE.1 hE.2.1 dX8_init_13 rfl (lv_at hl 0 rfl) ?_
  refine rg_getr hE hH cf_X8 fl_X8_15 rfl (wu0.1) (wu0.2) (v := u0 + 1) (qu0_0) dX8_init_14 ?_
  refine rg_alen hE hH (wu0_1.1) (wu0_1.2.1) (by decide) (by decide) dX8_init_17 ?_
  rw [wu0_1.2.2]
  refine rg_newI (ty := .int) rfl hE hH (u0 + 2) (hfr (u0 + 2) (by omega) (by omega)) (hkd 2 (by omega)) (Or.inr (Or.inl ⟨rfl, rfl⟩)) (by omega) (by show 0 + 1 + 1 ≤ 13; omega) (by show 0 + 5 + (tm tab) ≤ 75000; omega) dX8_init_18 (fun G18_3 H hX18_3 hln18_3 hrv18_3 hH => ?_)
  have hS18_3 := hX18_3.ex1 (hfr (u0 + 2) (by omega) (by omega))
  have wu0_2 : isA G18_3 (u0 + 2) 13 (tm tab) := ⟨hX18_3.new (List.mem_singleton_self _), hX18_3.kd (hkd 2 (by omega)), hln18_3⟩
  have hl : lv_has ls 4 [(0, .ref (G18_3.ad u0)), (1, .ref (G18_3.ad b))] := by rw [hS18_3.adm (wu0.1), hS18_3.adm (hL.1.1)]; exact hl
  refine rg_st (st' := [.ref (G18_3.ad (u0 + 2)), .ref (G18_3.ad u0)]) (by rw [hS18_3.adm (wu0.1)]) ?_
  have hL := hL.e hS18_3 (by omega)
  have wu0 := And.intro (hS18_3.mem wu0.1) (hS18_3.kd wu0.2)
  have hfr : ∀ x, u0 + 3 ≤ x → x < u0 + 15 → x ∉ G18_3.L := fun x h1 h2 => hS18_3.nin (hfr x (Nat.le_trans (dle u0 (a := 2) (c := 3) (by decide)) h1) h2) (Or.inr (Nat.le_trans (dle u0 (a := 3) (c := 3) (by decide)) h1))
  have hkd : ∀ i, i < 15 → G18_3.kd (u0 + i) = kTb (20 + i) := by rw [EX_kd hS18_3]; exact hkd
  have wu0_1 := wu0_1.em hS18_3
  have qu0_0 := hS18_3.rv (Or.inl (dl u0 (a := 0) (c := 2) (by decide))) qu0_0
  have hEX := hEX.tr (hS18_3.mono (c := u0) (d := u0 + 15) (dle u0 (a := 0) (c := 2) (by decide)) (dle u0 (a := 3) (c := 15) (by decide)))
  have hU18_3 : Fr iv6 (clr iv6 (u0 + 2) 0) (fun b0 _ => b0 = u0 + 2) := Fr.clr Fr.rf (fun _ => rfl)
  have hJ18_3 : FrJ jv6 (clr jv6 (u0 + 2) 0) (fun b0 _ => b0 = u0 + 2) := FrJ.clr FrJ.rf (fun _ => rfl)
  have hLy := hLy.fr2 hU18_3 hJ18_3 (fun lb j _ _ => by omega) (fun lb j _ _ => by omega)
  have hsz := (fun (i : Nat) (hi : i < tm tab) => (hU18_3 _ _ (by omega)).trans (hsz i hi))
  have hFr := hFr.tr (hU18_3.mono (P' := fun lb _ => u0 ≤ lb ∧ lb < u0 + 15) (fun lb j h => by rw [h]; exact ⟨dle u0 (a := 0) (c := 2) (by decide), dl u0 (a := 2) (c := 15) (by decide)⟩))
  have hFj := hFj.tr (hJ18_3.mono (P' := fun lb _ => u0 ≤ lb ∧ lb < u0 + 15) (fun lb j h => by rw [h]; exact ⟨dle u0 (a := 0) (c := 2) (by decide), dl u0 (a := 2) (c := 15) (by decide)⟩))
  generalize clr iv6 (u0 + 2) 0 = iv18_3 at hH hFr hU18_3 hLy hsz
  generalize clr jv6 (u0 + 2) 0 = jv18_3 at hH hFj hJ18_3 hLy hsz
  refine rg_putrF hE hH cf_X8 fl_X8_20 rfl fn_X8_1 fo_X8_1 hnm (wu0.1) (wu0.2) (v := u0 + 2) (wu0_2.1) dX8_init_20 (fun H locs hH => ?_)
  have hX20_4 := GX.set (G := G18_3) (lb := u0) (k := 1) (v := some (u0 + 2))
  have hS20_4 := EX.set (G := G18_3) (lb := u0) (k := 1) (v := some (u0 + 2))
  have qu0_1 := setR_s (G := G18_3) (lb := u0) (k := 1) (v := some (u0 + 2))
  generalize (G18_3.setR (up2 G18_3.rv u0 1 (some (u0 + 2)))) = G20_4 at hH hX20_4 hS20_4 qu0_1
  have hl : lv_has ls 4 [(0, .ref (G20_4.ad u0)), (1, .ref (G20_4.ad b))] := by rw [hS20_4.adm (wu0.1), hS20_4.adm (hL.1.1)]; exact hl
  have hL := hL.e hS20_4 (by omega)
  have wu0 := And.intro (hS20_4.mem wu0.1) (hS20_4.kd wu0.2)
  have hfr : ∀ x, u0 + 3 ≤ x → x < u0 + 15 → x ∉ G20_4.L := fun x h1 h2 => hS20_4.nin (hfr x (Nat.le_trans (dle u0 (a := 3) (c := 3) (by decide)) h1) h2) (Or.inr (Nat.le_trans (dle u0 (a := 1) (c := 3) (by decide)) h1))
  have hkd : ∀ i, i < 15 → G20_4.kd (u0 + i) = kTb (20 + i) := by rw [EX_kd hS20_4]; exact hkd
  have wu0_1 := wu0_1.em hS20_4
  have qu0_0 := hX20_4.rv List.not_mem_nil (fun h => absurd h.2 (by decide)) qu0_0
  have wu0_2 := wu0_2.em hS20_4
  have hEX := hEX.tr (hS20_4.mono (c := u0) (d := u0 + 15) (dle u0 (a := 0) (c := 0) (by decide)) (dle u0 (a := 1) (c := 15) (by decide)))
  refine lv_iconst (v := nI 1) hE.1 hE.2.1 dX8_init_23 (by decide) ?_
  refine lv_istore_n (lv' := [(2, .int (nI 1)), (0, .ref (G20_4.ad u0)), (1, .ref (G20_4.ad b))]) hE.1 hE.2.1 dX8_init_24 rfl hl (by decide) rfl (fun ls hl => ?_)
  have hl : lv_has ls 4 [(2, .int (nI (sp (g1 tab) (tm tab) (tm tab)))), (0, .ref (G20_4.ad u0)), (1, .ref (G20_4.ad b))] := by rw [sp_m hm1]; exact hl
  refine lv_aload_n hE.1 hE.2.1 dX8_init_25 rfl (lv_at hl 1 rfl) ?_
  refine rg_getr hE hH cf_X8 fl_X8_15 rfl (wu0.1) (wu0.2) (v := u0 + 1) (qu0_0) dX8_init_26 ?_
  refine rg_alen hE hH (wu0_1.1) (wu0_1.2.1) (by decide) (by decide) dX8_init_29 ?_
  rw [wu0_1.2.2]
  refine lv_iconst (v := nI 1) hE.1 hE.2.1 dX8_init_30 (by decide) ?_
  refine rn_isub hE dX8_init_31 (by omega) ?_
  refine rn_as (v' := dwn (tm tab)) (dwn_m hm1) ?_
  refine lv_istore_n (lv' := [(3, .int (dwn (tm tab))), (2, .int (nI (sp (g1 tab) (tm tab) (tm tab)))), (0, .ref (G20_4.ad u0)), (1, .ref (G20_4.ad b))]) hE.1 hE.2.1 dX8_init_32 rfl hl (by decide) rfl (fun ls hl => ?_)
  refine rg_loop (σ := IV × Nat) (nL := 4) (fun (u : IV × Nat) => match u with | (iv2, j) => j) (fun (u : IV × Nat) => match u with | (iv2, j) => [(0, .ref (G20_4.ad u0)), (1, .ref (G20_4.ad b)), (2, .int (nI (sp (g1 tab) (tm tab) j))), (3, .int (dwn j))]) (fun (u : IV × Nat) => match u with | (iv2, j) => G20_4) (fun (u : IV × Nat) => match u with | (iv2, j) => iv2) (fun (u : IV × Nat) => match u with | (iv2, j) => jv18_3) (fun (u : IV × Nat) => match u with | (iv2, j) => j ≤ tm tab ∧ (∀ i, j ≤ i → i < tm tab → iv2 (u0 + 2) i = nI (st (g1 tab) (tm tab) i)) ∧ Fr iv18_3 iv2 (fun lb _ => lb = u0 + 2)) ?_ ((iv18_3, tm tab)) ⟨Nat.le_refl _, fun i h1 h2 => absurd h2 (by omega), Fr.rf⟩ (lv_sub hl [2, 3, 1, 0] rfl) hH
  rintro ⟨iv2, j⟩ H locs ls ⟨hjm, hst, hF33⟩ hl hH ih33
  try dsimp only at hl hH ih33
  try dsimp only at hjm hst hF33
  refine lv_iload_n hE.1 hE.2.1 dX8_init_33 rfl (lv_at hl 3 rfl) ?_
  refine lv_if_lt (tgt := 61) hE.1 hE.2.1 dX8_init_34 (by decide) (fun c34 => ?_) (fun c34 => ?_)
  · have hj0 : j = 0 := (dwn_neg (by omega)).mp c34
    subst hj0
    have hst : ∀ i, i < tm tab → iv2 (u0 + 2) i = nI (st (g1 tab) (tm tab) i) := fun i hi => hst i (Nat.zero_le _) hi
    have hU33 := hF33
    have hJ33 : FrJ jv18_3 jv18_3 (fun lb _ => lb = u0 + 2) := FrJ.rf
    have hLy := hLy.fr2 hU33 hJ33 (fun lb j _ _ => by omega) (fun lb j _ _ => by omega)
    have hsz := (fun (i : Nat) (hi : i < tm tab) => (hU33 _ _ (by omega)).trans (hsz i hi))
    have hFr := hFr.tr (hU33.mono (P' := fun lb _ => u0 ≤ lb ∧ lb < u0 + 15) (fun lb j h => by omega))
    have hFj := hFj.tr (hJ33.mono (P' := fun lb _ => u0 ≤ lb ∧ lb < u0 + 15) (fun lb j h => by omega))
    have hl : lv_has ls 4 [(0, .ref (G20_4.ad u0)), (1, .ref (G20_4.ad b)), (2, .int (nI (tT tab))), (3, .int (dwn 0))] := by rw [sp_0] at hl; exact hl
    refine lv_aload_n hE.1 hE.2.1 dX8_init_61 rfl (lv_at hl 0 rfl) ?_
    refine lv_iload_n hE.1 hE.2.1 dX8_init_62 rfl (lv_at hl 2 rfl) ?_
    refine rg_putiF hE hH cf_X8 fl_X8_23 rfl fn_X8_2 fo_X8_2 hnm (wu0.1) (wu0.2) (v := nI (tT tab)) dX8_init_63 (fun H locs hH => ?_)
    have hU63_5 : Fr iv2 (up2 iv2 u0 2 (nI (tT tab))) (fun b0 j => b0 = u0 ∧ j = 2) := Fr.up Fr.rf ⟨rfl, rfl⟩
    have hJ63_5 : FrJ jv18_3 jv18_3 (fun b0 j => b0 = u0 ∧ j = 2) := FrJ.rf
    have hLy := hLy.fr2 hU63_5 hJ63_5 (fun lb j _ _ => by omega) (fun lb j _ _ => by omega)
    have hsz := (fun (i : Nat) (hi : i < tm tab) => (hU63_5 _ _ (by omega)).trans (hsz i hi))
    have hst := (fun (i : Nat) (hi : i < tm tab) => (hU63_5 _ _ (by omega)).trans (hst i hi))
    have hFr := hFr.tr (hU63_5.mono (P' := fun lb _ => u0 ≤ lb ∧ lb < u0 + 15) (fun lb j h => by rw [h.1]; exact ⟨dle u0 (a := 0) (c := 0) (by decide), dl u0 (a := 0) (c := 15) (by decide)⟩))
    have hFj := hFj.tr (hJ63_5.mono (P' := fun lb _ => u0 ≤ lb ∧ lb < u0 + 15) (fun lb j h => by rw [h.1]; exact ⟨dle u0 (a := 0) (c := 0) (by decide), dl u0 (a := 0) (c := 15) (by decide)⟩))
    have iu0_2 : (up2 iv2 u0 2 (nI (tT tab))) (u0) 2 = nI (tT tab) := up2_s
    generalize up2 iv2 u0 2 (nI (tT tab)) = iv63_5 at hH hFr hU63_5 hLy hsz hst iu0_2
    refine lv_aload_n hE.1 hE.2.1 dX8_init_66 rfl (lv_at hl 0 rfl) ?_
    refine lv_aload_n hE.1 hE.2.1 dX8_init_67 rfl (lv_at hl 0 rfl) ?_
    refine rg_getr hE hH cf_X8 fl_X8_15 rfl (wu0.1) (wu0.2) (v := u0 + 1) (qu0_0) dX8_init_68 ?_
    refine rg_alen hE hH (wu0_1.1) (wu0_1.2.1) (by decide) (by decide) dX8_init_71 ?_
    rw [wu0_1.2.2]
    refine lv_aload_n hE.1 hE.2.1 dX8_init_72 rfl (lv_at hl 0 rfl) ?_
    refine rg_geti hE hH cf_X8 fl_X8_23 rfl (wu0.1) (wu0.2) (v := nI (tT tab)) (iu0_2) dX8_init_73 ?_
    have hk1_76_6 : ∀ i, i < tm tab → G20_4.kd (u0 + 4 + i) = 13 := (fun (i : Nat) (hi : i < tm tab) => by rw [Nat.add_assoc]; exact (hkd (4 + i) (by omega)).trans (kTb_24 (by omega)))
    refine rg_newM hE hH (u0 + 3) (u0 + 4) (hfr (u0 + 3) (by omega) (by omega)) (fun i hi => hfr (u0 + 4 + i) (by omega) (by omega)) (Or.inl (by omega)) (hkd 3 (by omega)) hk1_76_6 (b3 40 rfl rfl) (by omega) (by omega) (by show 0 + 1 + 1 + (1 + (tm tab)) ≤ 13; omega) (by show 0 + 5 + (tm tab) + ((tm tab) + (tm tab) * (tT tab)) ≤ 75000; omega) dX8_init_76 (fun G76_6 H hX76_6 hln76_6 hli76_6 hH => ?_)
    have hS76_6 := hX76_6.exM (hfr (u0 + 3) (by omega) (by omega)) (fun i hi => hfr (u0 + 4 + i) (by omega) (by omega)) (by omega)
    have wu0_3 : isA G76_6 (u0 + 3) 19 (tm tab) := ⟨hX76_6.new List.mem_cons_self, hX76_6.kd (hkd 3 (by omega)), hln76_6⟩
    have wu0_3I : ∀ i, i < tm tab → isA G76_6 (u0 + 4 + i) 13 (tT tab) ∧ G76_6.rv (u0 + 3) i = some (u0 + 4 + i) := fun i hi => ⟨⟨hX76_6.new ((mem_inn (n := u0 + 3) (n1 := u0 + 4) (N := tm tab) (b := u0 + 4 + i)).mpr (Or.inr ⟨by omega, by omega⟩)), hX76_6.kd (hk1_76_6 i hi), (hli76_6 i hi).1⟩, (hli76_6 i hi).2⟩
    have hl : lv_has ls 4 [(0, .ref (G76_6.ad u0)), (1, .ref (G76_6.ad b)), (2, .int (nI (tT tab))), (3, .int (dwn 0))] := by rw [hS76_6.adm (wu0.1), hS76_6.adm (hL.1.1)]; exact hl
    refine rg_st (st' := [.ref (G76_6.ad (u0 + 3)), .ref (G76_6.ad u0)]) (by rw [hS76_6.adm (wu0.1)]) ?_
    have hL := hL.e hS76_6 (by omega)
    have wu0 := And.intro (hS76_6.mem wu0.1) (hS76_6.kd wu0.2)
    have hfr : ∀ x, u0 + 9 ≤ x → x < u0 + 15 → x ∉ G76_6.L := fun x h1 h2 => hS76_6.nin (hfr x (by omega) h2) (by omega)
    have hkd : ∀ i, i < 15 → G76_6.kd (u0 + i) = kTb (20 + i) := by rw [EX_kd hS76_6]; exact hkd
    have wu0_1 := wu0_1.em hS76_6
    have qu0_0 := hS76_6.rv (by omega) qu0_0
    have wu0_2 := wu0_2.em hS76_6
    have qu0_1 := hS76_6.rv (by omega) qu0_1
    have hEX := hEX.tr (hS76_6.mono (c := u0) (d := u0 + 15) (by omega) (by omega))
    have hU76_6 : Fr iv63_5 (clrs iv63_5 (u0 + 4) (tm tab) (u0 + 3) 0) (fun b0 _ => b0 = u0 + 3 ∨ (u0 + 4 ≤ b0 ∧ b0 < u0 + 4 + (tm tab))) := Fr.clrs Fr.rf (fun b0 j h => h)
    have hJ76_6 : FrJ jv18_3 (clrs jv18_3 (u0 + 4) (tm tab) (u0 + 3) 0) (fun b0 _ => b0 = u0 + 3 ∨ (u0 + 4 ≤ b0 ∧ b0 < u0 + 4 + (tm tab))) := FrJ.clrs FrJ.rf (fun b0 j h => h)
    have hLy := hLy.fr2 hU76_6 hJ76_6 (fun lb j _ _ => by omega) (fun lb j _ _ => by omega)
    have hsz := (fun (i : Nat) (hi : i < tm tab) => (hU76_6 _ _ (by omega)).trans (hsz i hi))
    have hst := (fun (i : Nat) (hi : i < tm tab) => (hU76_6 _ _ (by omega)).trans (hst i hi))
    have iu0_2 := (hU76_6 _ _ (by omega)).trans iu0_2
    have hFr := hFr.tr (hU76_6.mono (P' := fun lb _ => u0 ≤ lb ∧ lb < u0 + 15) (fun lb j h => by omega))
    have hFj := hFj.tr (hJ76_6.mono (P' := fun lb _ => u0 ≤ lb ∧ lb < u0 + 15) (fun lb j h => by omega))
    generalize clrs iv63_5 (u0 + 4) (tm tab) (u0 + 3) 0 = iv76_6 at hH hFr hU76_6 hLy hsz hst iu0_2
    generalize clrs jv18_3 (u0 + 4) (tm tab) (u0 + 3) 0 = jv76_6 at hH hFj hJ76_6 hLy hsz hst
    refine rg_putrF hE hH cf_X8 fl_X8_29 rfl fn_X8_3 fo_X8_3 hnm (wu0.1) (wu0.2) (v := u0 + 3) (wu0_3.1) dX8_init_80 (fun H locs hH => ?_)
    have hX80_7 := GX.set (G := G76_6) (lb := u0) (k := 3) (v := some (u0 + 3))
    have hS80_7 := EX.set (G := G76_6) (lb := u0) (k := 3) (v := some (u0 + 3))
    have qu0_3 := setR_s (G := G76_6) (lb := u0) (k := 3) (v := some (u0 + 3))
    generalize (G76_6.setR (up2 G76_6.rv u0 3 (some (u0 + 3)))) = G80_7 at hH hX80_7 hS80_7 qu0_3
    have hl : lv_has ls 4 [(0, .ref (G80_7.ad u0)), (1, .ref (G80_7.ad b)), (2, .int (nI (tT tab))), (3, .int (dwn 0))] := by rw [hS80_7.adm (wu0.1), hS80_7.adm (hL.1.1)]; exact hl
    have hL := hL.e hS80_7 (by omega)
    have wu0 := And.intro (hS80_7.mem wu0.1) (hS80_7.kd wu0.2)
    have hfr : ∀ x, u0 + 9 ≤ x → x < u0 + 15 → x ∉ G80_7.L := fun x h1 h2 => hS80_7.nin (hfr x (Nat.le_trans (dle u0 (a := 9) (c := 9) (by decide)) h1) h2) (Or.inr (Nat.le_trans (dle u0 (a := 1) (c := 9) (by decide)) h1))
    have hkd : ∀ i, i < 15 → G80_7.kd (u0 + i) = kTb (20 + i) := by rw [EX_kd hS80_7]; exact hkd
    have wu0_1 := wu0_1.em hS80_7
    have qu0_0 := hX80_7.rv List.not_mem_nil (fun h => absurd h.2 (by decide)) qu0_0
    have wu0_2 := wu0_2.em hS80_7
    have qu0_1 := hX80_7.rv List.not_mem_nil (fun h => absurd h.2 (by decide)) qu0_1
    have wu0_3 := wu0_3.em hS80_7
    have wu0_3I := (fun i hi => ⟨(wu0_3I i hi).1.em hS80_7, hS80_7.rv (by omega) (wu0_3I i hi).2⟩ : ∀ i, i < tm tab → isA _ (u0 + 4 + i) 13 (tT tab) ∧ GW.rv _ (u0 + 3) i = some (u0 + 4 + i))
    have hEX := hEX.tr (hS80_7.mono (c := u0) (d := u0 + 15) (dle u0 (a := 0) (c := 0) (by decide)) (dle u0 (a := 1) (c := 15) (by decide)))
    refine lv_aload_n hE.1 hE.2.1 dX8_init_83 rfl (lv_at hl 0 rfl) ?_
    refine lv_aload_n hE.1 hE.2.1 dX8_init_84 rfl (lv_at hl 0 rfl) ?_
    refine rg_geti hE hH cf_X8 fl_X8_23 rfl (wu0.1) (wu0.2) (v := nI (tT tab)) (iu0_2) dX8_init_85 ?_
    refine rg_newI (ty := .int) rfl hE hH (u0 + 10) (hfr (u0 + 10) (by omega) (by omega)) (hkd 10 (by omega)) (Or.inr (Or.inl ⟨rfl, rfl⟩)) (by omega) (by show 0 + 1 + 1 + 1 + (tm tab) + 1 ≤ 13; omega) (by show 0 + 5 + (tm tab) + (tm tab) + (tm tab) * (tT tab) + (tT tab) ≤ 75000; omega) dX8_init_88 (fun G88_8 H hX88_8 hln88_8 hrv88_8 hH => ?_)
    have hS88_8 := hX88_8.ex1 (hfr (u0 + 10) (by omega) (by omega))
    have wu0_10 : isA G88_8 (u0 + 10) 13 (tT tab) := ⟨hX88_8.new (List.mem_singleton_self _), hX88_8.kd (hkd 10 (by omega)), hln88_8⟩
    have hl : lv_has ls 4 [(0, .ref (G88_8.ad u0)), (1, .ref (G88_8.ad b)), (2, .int (nI (tT tab))), (3, .int (dwn 0))] := by rw [hS88_8.adm (wu0.1), hS88_8.adm (hL.1.1)]; exact hl
    refine rg_st (st' := [.ref (G88_8.ad (u0 + 10)), .ref (G88_8.ad u0)]) (by rw [hS88_8.adm (wu0.1)]) ?_
    have hL := hL.e hS88_8 (by omega)
    have wu0 := And.intro (hS88_8.mem wu0.1) (hS88_8.kd wu0.2)
    have hfr : ∀ x, u0 + 11 ≤ x → x < u0 + 15 → x ∉ G88_8.L := fun x h1 h2 => hS88_8.nin (hfr x (Nat.le_trans (dle u0 (a := 9) (c := 11) (by decide)) h1) h2) (Or.inr (Nat.le_trans (dle u0 (a := 11) (c := 11) (by decide)) h1))
    have hkd : ∀ i, i < 15 → G88_8.kd (u0 + i) = kTb (20 + i) := by rw [EX_kd hS88_8]; exact hkd
    have wu0_1 := wu0_1.em hS88_8
    have qu0_0 := hS88_8.rv (Or.inl (dl u0 (a := 0) (c := 10) (by decide))) qu0_0
    have wu0_2 := wu0_2.em hS88_8
    have qu0_1 := hS88_8.rv (Or.inl (dl u0 (a := 0) (c := 10) (by decide))) qu0_1
    have wu0_3 := wu0_3.em hS88_8
    have wu0_3I := (fun i hi => ⟨(wu0_3I i hi).1.em hS88_8, hS88_8.rv (by omega) (wu0_3I i hi).2⟩ : ∀ i, i < tm tab → isA _ (u0 + 4 + i) 13 (tT tab) ∧ GW.rv _ (u0 + 3) i = some (u0 + 4 + i))
    have qu0_3 := hS88_8.rv (Or.inl (dl u0 (a := 0) (c := 10) (by decide))) qu0_3
    have hEX := hEX.tr (hS88_8.mono (c := u0) (d := u0 + 15) (dle u0 (a := 0) (c := 10) (by decide)) (dle u0 (a := 11) (c := 15) (by decide)))
    have hU88_8 : Fr iv76_6 (clr iv76_6 (u0 + 10) 0) (fun b0 _ => b0 = u0 + 10) := Fr.clr Fr.rf (fun _ => rfl)
    have hJ88_8 : FrJ jv76_6 (clr jv76_6 (u0 + 10) 0) (fun b0 _ => b0 = u0 + 10) := FrJ.clr FrJ.rf (fun _ => rfl)
    have hLy := hLy.fr2 hU88_8 hJ88_8 (fun lb j _ _ => by omega) (fun lb j _ _ => by omega)
    have hsz := (fun (i : Nat) (hi : i < tm tab) => (hU88_8 _ _ (by omega)).trans (hsz i hi))
    have hst := (fun (i : Nat) (hi : i < tm tab) => (hU88_8 _ _ (by omega)).trans (hst i hi))
    have iu0_2 := (hU88_8 _ _ (dn u0 (a := 0) (c := 10) (by decide))).trans iu0_2
    have hFr := hFr.tr (hU88_8.mono (P' := fun lb _ => u0 ≤ lb ∧ lb < u0 + 15) (fun lb j h => by rw [h]; exact ⟨dle u0 (a := 0) (c := 10) (by decide), dl u0 (a := 10) (c := 15) (by decide)⟩))
    have hFj := hFj.tr (hJ88_8.mono (P' := fun lb _ => u0 ≤ lb ∧ lb < u0 + 15) (fun lb j h => by rw [h]; exact ⟨dle u0 (a := 0) (c := 10) (by decide), dl u0 (a := 10) (c := 15) (by decide)⟩))
    have hz10 : ∀ j, (clr iv76_6 (u0 + 10) 0) (u0 + 10) j = 0 := fun j => clr_s
    generalize clr iv76_6 (u0 + 10) 0 = iv88_8 at hH hFr hU88_8 hLy hsz hst iu0_2 hz10
    generalize clr jv76_6 (u0 + 10) 0 = jv88_8 at hH hFj hJ88_8 hLy hsz hst
    refine rg_putrF hE hH cf_X8 fl_X8_32 rfl fn_X8_4 fo_X8_4 hnm (wu0.1) (wu0.2) (v := u0 + 10) (wu0_10.1) dX8_init_90 (fun H locs hH => ?_)
    have hX90_9 := GX.set (G := G88_8) (lb := u0) (k := 4) (v := some (u0 + 10))
    have hS90_9 := EX.set (G := G88_8) (lb := u0) (k := 4) (v := some (u0 + 10))
    have qu0_4 := setR_s (G := G88_8) (lb := u0) (k := 4) (v := some (u0 + 10))
    generalize (G88_8.setR (up2 G88_8.rv u0 4 (some (u0 + 10)))) = G90_9 at hH hX90_9 hS90_9 qu0_4
    have hl : lv_has ls 4 [(0, .ref (G90_9.ad u0)), (1, .ref (G90_9.ad b)), (2, .int (nI (tT tab))), (3, .int (dwn 0))] := by rw [hS90_9.adm (wu0.1), hS90_9.adm (hL.1.1)]; exact hl
    have hL := hL.e hS90_9 (by omega)
    have wu0 := And.intro (hS90_9.mem wu0.1) (hS90_9.kd wu0.2)
    have hfr : ∀ x, u0 + 11 ≤ x → x < u0 + 15 → x ∉ G90_9.L := fun x h1 h2 => hS90_9.nin (hfr x (Nat.le_trans (dle u0 (a := 11) (c := 11) (by decide)) h1) h2) (Or.inr (Nat.le_trans (dle u0 (a := 1) (c := 11) (by decide)) h1))
    have hkd : ∀ i, i < 15 → G90_9.kd (u0 + i) = kTb (20 + i) := by rw [EX_kd hS90_9]; exact hkd
    have wu0_1 := wu0_1.em hS90_9
    have qu0_0 := hX90_9.rv List.not_mem_nil (fun h => absurd h.2 (by decide)) qu0_0
    have wu0_2 := wu0_2.em hS90_9
    have qu0_1 := hX90_9.rv List.not_mem_nil (fun h => absurd h.2 (by decide)) qu0_1
    have wu0_3 := wu0_3.em hS90_9
    have wu0_3I := (fun i hi => ⟨(wu0_3I i hi).1.em hS90_9, hS90_9.rv (by omega) (wu0_3I i hi).2⟩ : ∀ i, i < tm tab → isA _ (u0 + 4 + i) 13 (tT tab) ∧ GW.rv _ (u0 + 3) i = some (u0 + 4 + i))
    have qu0_3 := hX90_9.rv List.not_mem_nil (fun h => absurd h.2 (by decide)) qu0_3
    have wu0_10 := wu0_10.em hS90_9
    have hEX := hEX.tr (hS90_9.mono (c := u0) (d := u0 + 15) (dle u0 (a := 0) (c := 0) (by decide)) (dle u0 (a := 1) (c := 15) (by decide)))
    refine lv_aload_n hE.1 hE.2.1 dX8_init_93 rfl (lv_at hl 0 rfl) ?_
    refine lv_aload_n hE.1 hE.2.1 dX8_init_94 rfl (lv_at hl 0 rfl) ?_
    refine rg_geti hE hH cf_X8 fl_X8_23 rfl (wu0.1) (wu0.2) (v := nI (tT tab)) (iu0_2) dX8_init_95 ?_
    refine rg_newI (ty := .int) rfl hE hH (u0 + 11) (hfr (u0 + 11) (by omega) (by omega)) (hkd 11 (by omega)) (Or.inr (Or.inl ⟨rfl, rfl⟩)) (by omega) (by show 0 + 1 + 1 + 1 + (tm tab) + 1 + 1 ≤ 13; omega) (by show 0 + 5 + (tm tab) + (tm tab) + (tm tab) * (tT tab) + (tT tab) + (tT tab) ≤ 75000; omega) dX8_init_98 (fun G98_10 H hX98_10 hln98_10 hrv98_10 hH => ?_)
    have hS98_10 := hX98_10.ex1 (hfr (u0 + 11) (by omega) (by omega))
    have wu0_11 : isA G98_10 (u0 + 11) 13 (tT tab) := ⟨hX98_10.new (List.mem_singleton_self _), hX98_10.kd (hkd 11 (by omega)), hln98_10⟩
    have hl : lv_has ls 4 [(0, .ref (G98_10.ad u0)), (1, .ref (G98_10.ad b)), (2, .int (nI (tT tab))), (3, .int (dwn 0))] := by rw [hS98_10.adm (wu0.1), hS98_10.adm (hL.1.1)]; exact hl
    refine rg_st (st' := [.ref (G98_10.ad (u0 + 11)), .ref (G98_10.ad u0)]) (by rw [hS98_10.adm (wu0.1)]) ?_
    have hL := hL.e hS98_10 (by omega)
    have wu0 := And.intro (hS98_10.mem wu0.1) (hS98_10.kd wu0.2)
    have hfr : ∀ x, u0 + 12 ≤ x → x < u0 + 15 → x ∉ G98_10.L := fun x h1 h2 => hS98_10.nin (hfr x (Nat.le_trans (dle u0 (a := 11) (c := 12) (by decide)) h1) h2) (Or.inr (Nat.le_trans (dle u0 (a := 12) (c := 12) (by decide)) h1))
    have hkd : ∀ i, i < 15 → G98_10.kd (u0 + i) = kTb (20 + i) := by rw [EX_kd hS98_10]; exact hkd
    have wu0_1 := wu0_1.em hS98_10
    have qu0_0 := hS98_10.rv (Or.inl (dl u0 (a := 0) (c := 11) (by decide))) qu0_0
    have wu0_2 := wu0_2.em hS98_10
    have qu0_1 := hS98_10.rv (Or.inl (dl u0 (a := 0) (c := 11) (by decide))) qu0_1
    have wu0_3 := wu0_3.em hS98_10
    have wu0_3I := (fun i hi => ⟨(wu0_3I i hi).1.em hS98_10, hS98_10.rv (by omega) (wu0_3I i hi).2⟩ : ∀ i, i < tm tab → isA _ (u0 + 4 + i) 13 (tT tab) ∧ GW.rv _ (u0 + 3) i = some (u0 + 4 + i))
    have qu0_3 := hS98_10.rv (Or.inl (dl u0 (a := 0) (c := 11) (by decide))) qu0_3
    have wu0_10 := wu0_10.em hS98_10
    have qu0_4 := hS98_10.rv (Or.inl (dl u0 (a := 0) (c := 11) (by decide))) qu0_4
    have hEX := hEX.tr (hS98_10.mono (c := u0) (d := u0 + 15) (dle u0 (a := 0) (c := 11) (by decide)) (dle u0 (a := 12) (c := 15) (by decide)))
    have hU98_10 : Fr iv88_8 (clr iv88_8 (u0 + 11) 0) (fun b0 _ => b0 = u0 + 11) := Fr.clr Fr.rf (fun _ => rfl)
    have hJ98_10 : FrJ jv88_8 (clr jv88_8 (u0 + 11) 0) (fun b0 _ => b0 = u0 + 11) := FrJ.clr FrJ.rf (fun _ => rfl)
    have hLy := hLy.fr2 hU98_10 hJ98_10 (fun lb j _ _ => by omega) (fun lb j _ _ => by omega)
    have hsz := (fun (i : Nat) (hi : i < tm tab) => (hU98_10 _ _ (by omega)).trans (hsz i hi))
    have hst := (fun (i : Nat) (hi : i < tm tab) => (hU98_10 _ _ (by omega)).trans (hst i hi))
    have iu0_2 := (hU98_10 _ _ (dn u0 (a := 0) (c := 11) (by decide))).trans iu0_2
    have hz10 := (fun (j : Nat) => (hU98_10 _ _ (by omega)).trans (hz10 j))
    have hFr := hFr.tr (hU98_10.mono (P' := fun lb _ => u0 ≤ lb ∧ lb < u0 + 15) (fun lb j h => by rw [h]; exact ⟨dle u0 (a := 0) (c := 11) (by decide), dl u0 (a := 11) (c := 15) (by decide)⟩))
    have hFj := hFj.tr (hJ98_10.mono (P' := fun lb _ => u0 ≤ lb ∧ lb < u0 + 15) (fun lb j h => by rw [h]; exact ⟨dle u0 (a := 0) (c := 11) (by decide), dl u0 (a := 11) (c := 15) (by decide)⟩))
    generalize clr iv88_8 (u0 + 11) 0 = iv98_10 at hH hFr hU98_10 hLy hsz hst iu0_2 hz10
    generalize clr jv88_8 (u0 + 11) 0 = jv98_10 at hH hFj hJ98_10 hLy hsz hst hz10
    refine rg_putrF hE hH cf_X8 fl_X8_35 rfl fn_X8_5 fo_X8_5 hnm (wu0.1) (wu0.2) (v := u0 + 11) (wu0_11.1) dX8_init_100 (fun H locs hH => ?_)
    have hX100_11 := GX.set (G := G98_10) (lb := u0) (k := 5) (v := some (u0 + 11))
    have hS100_11 := EX.set (G := G98_10) (lb := u0) (k := 5) (v := some (u0 + 11))
    have qu0_5 := setR_s (G := G98_10) (lb := u0) (k := 5) (v := some (u0 + 11))
    generalize (G98_10.setR (up2 G98_10.rv u0 5 (some (u0 + 11)))) = G100_11 at hH hX100_11 hS100_11 qu0_5
    have hl : lv_has ls 4 [(0, .ref (G100_11.ad u0)), (1, .ref (G100_11.ad b)), (2, .int (nI (tT tab))), (3, .int (dwn 0))] := by rw [hS100_11.adm (wu0.1), hS100_11.adm (hL.1.1)]; exact hl
    have hL := hL.e hS100_11 (by omega)
    have wu0 := And.intro (hS100_11.mem wu0.1) (hS100_11.kd wu0.2)
    have hfr : ∀ x, u0 + 12 ≤ x → x < u0 + 15 → x ∉ G100_11.L := fun x h1 h2 => hS100_11.nin (hfr x (Nat.le_trans (dle u0 (a := 12) (c := 12) (by decide)) h1) h2) (Or.inr (Nat.le_trans (dle u0 (a := 1) (c := 12) (by decide)) h1))
    have hkd : ∀ i, i < 15 → G100_11.kd (u0 + i) = kTb (20 + i) := by rw [EX_kd hS100_11]; exact hkd
    have wu0_1 := wu0_1.em hS100_11
    have qu0_0 := hX100_11.rv List.not_mem_nil (fun h => absurd h.2 (by decide)) qu0_0
    have wu0_2 := wu0_2.em hS100_11
    have qu0_1 := hX100_11.rv List.not_mem_nil (fun h => absurd h.2 (by decide)) qu0_1
    have wu0_3 := wu0_3.em hS100_11
    have wu0_3I := (fun i hi => ⟨(wu0_3I i hi).1.em hS100_11, hS100_11.rv (by omega) (wu0_3I i hi).2⟩ : ∀ i, i < tm tab → isA _ (u0 + 4 + i) 13 (tT tab) ∧ GW.rv _ (u0 + 3) i = some (u0 + 4 + i))
    have qu0_3 := hX100_11.rv List.not_mem_nil (fun h => absurd h.2 (by decide)) qu0_3
    have wu0_10 := wu0_10.em hS100_11
    have qu0_4 := hX100_11.rv List.not_mem_nil (fun h => absurd h.2 (by decide)) qu0_4
    have wu0_11 := wu0_11.em hS100_11
    have hEX := hEX.tr (hS100_11.mono (c := u0) (d := u0 + 15) (dle u0 (a := 0) (c := 0) (by decide)) (dle u0 (a := 1) (c := 15) (by decide)))
    refine lv_aload_n hE.1 hE.2.1 dX8_init_103 rfl (lv_at hl 0 rfl) ?_
    refine lv_aload_n hE.1 hE.2.1 dX8_init_104 rfl (lv_at hl 0 rfl) ?_
    refine rg_geti hE hH cf_X8 fl_X8_23 rfl (wu0.1) (wu0.2) (v := nI (tT tab)) (iu0_2) dX8_init_105 ?_
    refine rg_newI (ty := .int) rfl hE hH (u0 + 12) (hfr (u0 + 12) (by omega) (by omega)) (hkd 12 (by omega)) (Or.inr (Or.inl ⟨rfl, rfl⟩)) (by omega) (by show 0 + 1 + 1 + 1 + (tm tab) + 1 + 1 + 1 ≤ 13; omega) (by show 0 + 5 + (tm tab) + (tm tab) + (tm tab) * (tT tab) + (tT tab) + (tT tab) + (tT tab) ≤ 75000; omega) dX8_init_108 (fun G108_12 H hX108_12 hln108_12 hrv108_12 hH => ?_)
    have hS108_12 := hX108_12.ex1 (hfr (u0 + 12) (by omega) (by omega))
    have wu0_12 : isA G108_12 (u0 + 12) 13 (tT tab) := ⟨hX108_12.new (List.mem_singleton_self _), hX108_12.kd (hkd 12 (by omega)), hln108_12⟩
    have hl : lv_has ls 4 [(0, .ref (G108_12.ad u0)), (1, .ref (G108_12.ad b)), (2, .int (nI (tT tab))), (3, .int (dwn 0))] := by rw [hS108_12.adm (wu0.1), hS108_12.adm (hL.1.1)]; exact hl
    refine rg_st (st' := [.ref (G108_12.ad (u0 + 12)), .ref (G108_12.ad u0)]) (by rw [hS108_12.adm (wu0.1)]) ?_
    have hL := hL.e hS108_12 (by omega)
    have wu0 := And.intro (hS108_12.mem wu0.1) (hS108_12.kd wu0.2)
    have hfr : ∀ x, u0 + 13 ≤ x → x < u0 + 15 → x ∉ G108_12.L := fun x h1 h2 => hS108_12.nin (hfr x (Nat.le_trans (dle u0 (a := 12) (c := 13) (by decide)) h1) h2) (Or.inr (Nat.le_trans (dle u0 (a := 13) (c := 13) (by decide)) h1))
    have hkd : ∀ i, i < 15 → G108_12.kd (u0 + i) = kTb (20 + i) := by rw [EX_kd hS108_12]; exact hkd
    have wu0_1 := wu0_1.em hS108_12
    have qu0_0 := hS108_12.rv (Or.inl (dl u0 (a := 0) (c := 12) (by decide))) qu0_0
    have wu0_2 := wu0_2.em hS108_12
    have qu0_1 := hS108_12.rv (Or.inl (dl u0 (a := 0) (c := 12) (by decide))) qu0_1
    have wu0_3 := wu0_3.em hS108_12
    have wu0_3I := (fun i hi => ⟨(wu0_3I i hi).1.em hS108_12, hS108_12.rv (by omega) (wu0_3I i hi).2⟩ : ∀ i, i < tm tab → isA _ (u0 + 4 + i) 13 (tT tab) ∧ GW.rv _ (u0 + 3) i = some (u0 + 4 + i))
    have qu0_3 := hS108_12.rv (Or.inl (dl u0 (a := 0) (c := 12) (by decide))) qu0_3
    have wu0_10 := wu0_10.em hS108_12
    have qu0_4 := hS108_12.rv (Or.inl (dl u0 (a := 0) (c := 12) (by decide))) qu0_4
    have wu0_11 := wu0_11.em hS108_12
    have qu0_5 := hS108_12.rv (Or.inl (dl u0 (a := 0) (c := 12) (by decide))) qu0_5
    have hEX := hEX.tr (hS108_12.mono (c := u0) (d := u0 + 15) (dle u0 (a := 0) (c := 12) (by decide)) (dle u0 (a := 13) (c := 15) (by decide)))
    have hU108_12 : Fr iv98_10 (clr iv98_10 (u0 + 12) 0) (fun b0 _ => b0 = u0 + 12) := Fr.clr Fr.rf (fun _ => rfl)
    have hJ108_12 : FrJ jv98_10 (clr jv98_10 (u0 + 12) 0) (fun b0 _ => b0 = u0 + 12) := FrJ.clr FrJ.rf (fun _ => rfl)
    have hLy := hLy.fr2 hU108_12 hJ108_12 (fun lb j _ _ => by omega) (fun lb j _ _ => by omega)
    have hsz := (fun (i : Nat) (hi : i < tm tab) => (hU108_12 _ _ (by omega)).trans (hsz i hi))
    have hst := (fun (i : Nat) (hi : i < tm tab) => (hU108_12 _ _ (by omega)).trans (hst i hi))
    have iu0_2 := (hU108_12 _ _ (dn u0 (a := 0) (c := 12) (by decide))).trans iu0_2
    have hz10 := (fun (j : Nat) => (hU108_12 _ _ (by omega)).trans (hz10 j))
    have hFr := hFr.tr (hU108_12.mono (P' := fun lb _ => u0 ≤ lb ∧ lb < u0 + 15) (fun lb j h => by rw [h]; exact ⟨dle u0 (a := 0) (c := 12) (by decide), dl u0 (a := 12) (c := 15) (by decide)⟩))
    have hFj := hFj.tr (hJ108_12.mono (P' := fun lb _ => u0 ≤ lb ∧ lb < u0 + 15) (fun lb j h => by rw [h]; exact ⟨dle u0 (a := 0) (c := 12) (by decide), dl u0 (a := 12) (c := 15) (by decide)⟩))
    generalize clr iv98_10 (u0 + 12) 0 = iv108_12 at hH hFr hU108_12 hLy hsz hst iu0_2 hz10
    generalize clr jv98_10 (u0 + 12) 0 = jv108_12 at hH hFj hJ108_12 hLy hsz hst hz10
    refine rg_putrF hE hH cf_X8 fl_X8_38 rfl fn_X8_6 fo_X8_6 hnm (wu0.1) (wu0.2) (v := u0 + 12) (wu0_12.1) dX8_init_110 (fun H locs hH => ?_)
    have hX110_13 := GX.set (G := G108_12) (lb := u0) (k := 6) (v := some (u0 + 12))
    have hS110_13 := EX.set (G := G108_12) (lb := u0) (k := 6) (v := some (u0 + 12))
    have qu0_6 := setR_s (G := G108_12) (lb := u0) (k := 6) (v := some (u0 + 12))
    generalize (G108_12.setR (up2 G108_12.rv u0 6 (some (u0 + 12)))) = G110_13 at hH hX110_13 hS110_13 qu0_6
    have hl : lv_has ls 4 [(0, .ref (G110_13.ad u0)), (1, .ref (G110_13.ad b)), (2, .int (nI (tT tab))), (3, .int (dwn 0))] := by rw [hS110_13.adm (wu0.1), hS110_13.adm (hL.1.1)]; exact hl
    have hL := hL.e hS110_13 (by omega)
    have wu0 := And.intro (hS110_13.mem wu0.1) (hS110_13.kd wu0.2)
    have hfr : ∀ x, u0 + 13 ≤ x → x < u0 + 15 → x ∉ G110_13.L := fun x h1 h2 => hS110_13.nin (hfr x (Nat.le_trans (dle u0 (a := 13) (c := 13) (by decide)) h1) h2) (Or.inr (Nat.le_trans (dle u0 (a := 1) (c := 13) (by decide)) h1))
    have hkd : ∀ i, i < 15 → G110_13.kd (u0 + i) = kTb (20 + i) := by rw [EX_kd hS110_13]; exact hkd
    have wu0_1 := wu0_1.em hS110_13
    have qu0_0 := hX110_13.rv List.not_mem_nil (fun h => absurd h.2 (by decide)) qu0_0
    have wu0_2 := wu0_2.em hS110_13
    have qu0_1 := hX110_13.rv List.not_mem_nil (fun h => absurd h.2 (by decide)) qu0_1
    have wu0_3 := wu0_3.em hS110_13
    have wu0_3I := (fun i hi => ⟨(wu0_3I i hi).1.em hS110_13, hS110_13.rv (by omega) (wu0_3I i hi).2⟩ : ∀ i, i < tm tab → isA _ (u0 + 4 + i) 13 (tT tab) ∧ GW.rv _ (u0 + 3) i = some (u0 + 4 + i))
    have qu0_3 := hX110_13.rv List.not_mem_nil (fun h => absurd h.2 (by decide)) qu0_3
    have wu0_10 := wu0_10.em hS110_13
    have qu0_4 := hX110_13.rv List.not_mem_nil (fun h => absurd h.2 (by decide)) qu0_4
    have wu0_11 := wu0_11.em hS110_13
    have qu0_5 := hX110_13.rv List.not_mem_nil (fun h => absurd h.2 (by decide)) qu0_5
    have wu0_12 := wu0_12.em hS110_13
    have hEX := hEX.tr (hS110_13.mono (c := u0) (d := u0 + 15) (dle u0 (a := 0) (c := 0) (by decide)) (dle u0 (a := 1) (c := 15) (by decide)))
    refine lv_aload_n hE.1 hE.2.1 dX8_init_113 rfl (lv_at hl 0 rfl) ?_
    refine lv_aload_n hE.1 hE.2.1 dX8_init_114 rfl (lv_at hl 0 rfl) ?_
    refine rg_geti hE hH cf_X8 fl_X8_23 rfl (wu0.1) (wu0.2) (v := nI (tT tab)) (iu0_2) dX8_init_115 ?_
    refine rg_newI (ty := .int) rfl hE hH (u0 + 13) (hfr (u0 + 13) (by omega) (by omega)) (hkd 13 (by omega)) (Or.inr (Or.inl ⟨rfl, rfl⟩)) (by omega) (by show 0 + 1 + 1 + 1 + (tm tab) + 1 + 1 + 1 + 1 ≤ 13; omega) (by show 0 + 5 + (tm tab) + (tm tab) + (tm tab) * (tT tab) + (tT tab) + (tT tab) + (tT tab) + (tT tab) ≤ 75000; omega) dX8_init_118 (fun G118_14 H hX118_14 hln118_14 hrv118_14 hH => ?_)
    have hS118_14 := hX118_14.ex1 (hfr (u0 + 13) (by omega) (by omega))
    have wu0_13 : isA G118_14 (u0 + 13) 13 (tT tab) := ⟨hX118_14.new (List.mem_singleton_self _), hX118_14.kd (hkd 13 (by omega)), hln118_14⟩
    have hl : lv_has ls 4 [(0, .ref (G118_14.ad u0)), (1, .ref (G118_14.ad b)), (2, .int (nI (tT tab))), (3, .int (dwn 0))] := by rw [hS118_14.adm (wu0.1), hS118_14.adm (hL.1.1)]; exact hl
    refine rg_st (st' := [.ref (G118_14.ad (u0 + 13)), .ref (G118_14.ad u0)]) (by rw [hS118_14.adm (wu0.1)]) ?_
    have hL := hL.e hS118_14 (by omega)
    have wu0 := And.intro (hS118_14.mem wu0.1) (hS118_14.kd wu0.2)
    have hfr : ∀ x, u0 + 14 ≤ x → x < u0 + 15 → x ∉ G118_14.L := fun x h1 h2 => hS118_14.nin (hfr x (Nat.le_trans (dle u0 (a := 13) (c := 14) (by decide)) h1) h2) (Or.inr (Nat.le_trans (dle u0 (a := 14) (c := 14) (by decide)) h1))
    have hkd : ∀ i, i < 15 → G118_14.kd (u0 + i) = kTb (20 + i) := by rw [EX_kd hS118_14]; exact hkd
    have wu0_1 := wu0_1.em hS118_14
    have qu0_0 := hS118_14.rv (Or.inl (dl u0 (a := 0) (c := 13) (by decide))) qu0_0
    have wu0_2 := wu0_2.em hS118_14
    have qu0_1 := hS118_14.rv (Or.inl (dl u0 (a := 0) (c := 13) (by decide))) qu0_1
    have wu0_3 := wu0_3.em hS118_14
    have wu0_3I := (fun i hi => ⟨(wu0_3I i hi).1.em hS118_14, hS118_14.rv (by omega) (wu0_3I i hi).2⟩ : ∀ i, i < tm tab → isA _ (u0 + 4 + i) 13 (tT tab) ∧ GW.rv _ (u0 + 3) i = some (u0 + 4 + i))
    have qu0_3 := hS118_14.rv (Or.inl (dl u0 (a := 0) (c := 13) (by decide))) qu0_3
    have wu0_10 := wu0_10.em hS118_14
    have qu0_4 := hS118_14.rv (Or.inl (dl u0 (a := 0) (c := 13) (by decide))) qu0_4
    have wu0_11 := wu0_11.em hS118_14
    have qu0_5 := hS118_14.rv (Or.inl (dl u0 (a := 0) (c := 13) (by decide))) qu0_5
    have wu0_12 := wu0_12.em hS118_14
    have qu0_6 := hS118_14.rv (Or.inl (dl u0 (a := 0) (c := 13) (by decide))) qu0_6
    have hEX := hEX.tr (hS118_14.mono (c := u0) (d := u0 + 15) (dle u0 (a := 0) (c := 13) (by decide)) (dle u0 (a := 14) (c := 15) (by decide)))
    have hU118_14 : Fr iv108_12 (clr iv108_12 (u0 + 13) 0) (fun b0 _ => b0 = u0 + 13) := Fr.clr Fr.rf (fun _ => rfl)
    have hJ118_14 : FrJ jv108_12 (clr jv108_12 (u0 + 13) 0) (fun b0 _ => b0 = u0 + 13) := FrJ.clr FrJ.rf (fun _ => rfl)
    have hLy := hLy.fr2 hU118_14 hJ118_14 (fun lb j _ _ => by omega) (fun lb j _ _ => by omega)
    have hsz := (fun (i : Nat) (hi : i < tm tab) => (hU118_14 _ _ (by omega)).trans (hsz i hi))
    have hst := (fun (i : Nat) (hi : i < tm tab) => (hU118_14 _ _ (by omega)).trans (hst i hi))
    have iu0_2 := (hU118_14 _ _ (dn u0 (a := 0) (c := 13) (by decide))).trans iu0_2
    have hz10 := (fun (j : Nat) => (hU118_14 _ _ (by omega)).trans (hz10 j))
    have hFr := hFr.tr (hU118_14.mono (P' := fun lb _ => u0 ≤ lb ∧ lb < u0 + 15) (fun lb j h => by rw [h]; exact ⟨dle u0 (a := 0) (c := 13) (by decide), dl u0 (a := 13) (c := 15) (by decide)⟩))
    have hFj := hFj.tr (hJ118_14.mono (P' := fun lb _ => u0 ≤ lb ∧ lb < u0 + 15) (fun lb j h => by rw [h]; exact ⟨dle u0 (a := 0) (c := 13) (by decide), dl u0 (a := 13) (c := 15) (by decide)⟩))
    generalize clr iv108_12 (u0 + 13) 0 = iv118_14 at hH hFr hU118_14 hLy hsz hst iu0_2 hz10
    generalize clr jv108_12 (u0 + 13) 0 = jv118_14 at hH hFj hJ118_14 hLy hsz hst hz10
    refine rg_putrF hE hH cf_X8 fl_X8_41 rfl fn_X8_7 fo_X8_7 hnm (wu0.1) (wu0.2) (v := u0 + 13) (wu0_13.1) dX8_init_120 (fun H locs hH => ?_)
    have hX120_15 := GX.set (G := G118_14) (lb := u0) (k := 7) (v := some (u0 + 13))
    have hS120_15 := EX.set (G := G118_14) (lb := u0) (k := 7) (v := some (u0 + 13))
    have qu0_7 := setR_s (G := G118_14) (lb := u0) (k := 7) (v := some (u0 + 13))
    generalize (G118_14.setR (up2 G118_14.rv u0 7 (some (u0 + 13)))) = G120_15 at hH hX120_15 hS120_15 qu0_7
    have hl : lv_has ls 4 [(0, .ref (G120_15.ad u0)), (1, .ref (G120_15.ad b)), (2, .int (nI (tT tab))), (3, .int (dwn 0))] := by rw [hS120_15.adm (wu0.1), hS120_15.adm (hL.1.1)]; exact hl
    have hL := hL.e hS120_15 (by omega)
    have wu0 := And.intro (hS120_15.mem wu0.1) (hS120_15.kd wu0.2)
    have hfr : ∀ x, u0 + 14 ≤ x → x < u0 + 15 → x ∉ G120_15.L := fun x h1 h2 => hS120_15.nin (hfr x (Nat.le_trans (dle u0 (a := 14) (c := 14) (by decide)) h1) h2) (Or.inr (Nat.le_trans (dle u0 (a := 1) (c := 14) (by decide)) h1))
    have hkd : ∀ i, i < 15 → G120_15.kd (u0 + i) = kTb (20 + i) := by rw [EX_kd hS120_15]; exact hkd
    have wu0_1 := wu0_1.em hS120_15
    have qu0_0 := hX120_15.rv List.not_mem_nil (fun h => absurd h.2 (by decide)) qu0_0
    have wu0_2 := wu0_2.em hS120_15
    have qu0_1 := hX120_15.rv List.not_mem_nil (fun h => absurd h.2 (by decide)) qu0_1
    have wu0_3 := wu0_3.em hS120_15
    have wu0_3I := (fun i hi => ⟨(wu0_3I i hi).1.em hS120_15, hS120_15.rv (by omega) (wu0_3I i hi).2⟩ : ∀ i, i < tm tab → isA _ (u0 + 4 + i) 13 (tT tab) ∧ GW.rv _ (u0 + 3) i = some (u0 + 4 + i))
    have qu0_3 := hX120_15.rv List.not_mem_nil (fun h => absurd h.2 (by decide)) qu0_3
    have wu0_10 := wu0_10.em hS120_15
    have qu0_4 := hX120_15.rv List.not_mem_nil (fun h => absurd h.2 (by decide)) qu0_4
    have wu0_11 := wu0_11.em hS120_15
    have qu0_5 := hX120_15.rv List.not_mem_nil (fun h => absurd h.2 (by decide)) qu0_5
    have wu0_12 := wu0_12.em hS120_15
    have qu0_6 := hX120_15.rv List.not_mem_nil (fun h => absurd h.2 (by decide)) qu0_6
    have wu0_13 := wu0_13.em hS120_15
    have hEX := hEX.tr (hS120_15.mono (c := u0) (d := u0 + 15) (dle u0 (a := 0) (c := 0) (by decide)) (dle u0 (a := 1) (c := 15) (by decide)))
    refine lv_aload_n hE.1 hE.2.1 dX8_init_123 rfl (lv_at hl 0 rfl) ?_
    refine lv_aload_n hE.1 hE.2.1 dX8_init_124 rfl (lv_at hl 1 rfl) ?_
    refine rg_geti hE hH cf_X1 fl_X8_44 rfl (hL.1.1) (hL.1.2) (v := nI (tC tab)) (hLy.cc) dX8_init_125 ?_
    refine rg_newI (ty := .boolean) rfl hE hH (u0 + 14) (hfr (u0 + 14) (by omega) (by omega)) (hkd 14 (by omega)) (Or.inr (Or.inr ⟨rfl, rfl⟩)) (by omega) (by show 0 + 1 + 1 + 1 + (tm tab) + 1 + 1 + 1 + 1 + 1 ≤ 13; omega) (by show 0 + 5 + (tm tab) + (tm tab) + (tm tab) * (tT tab) + (tT tab) + (tT tab) + (tT tab) + (tT tab) + (tC tab) ≤ 75000; omega) dX8_init_128 (fun G128_16 H hX128_16 hln128_16 hrv128_16 hH => ?_)
    have hS128_16 := hX128_16.ex1 (hfr (u0 + 14) (by omega) (by omega))
    have wu0_14 : isA G128_16 (u0 + 14) 15 (tC tab) := ⟨hX128_16.new (List.mem_singleton_self _), hX128_16.kd (hkd 14 (by omega)), hln128_16⟩
    have hl : lv_has ls 4 [(0, .ref (G128_16.ad u0)), (1, .ref (G128_16.ad b)), (2, .int (nI (tT tab))), (3, .int (dwn 0))] := by rw [hS128_16.adm (wu0.1), hS128_16.adm (hL.1.1)]; exact hl
    refine rg_st (st' := [.ref (G128_16.ad (u0 + 14)), .ref (G128_16.ad u0)]) (by rw [hS128_16.adm (wu0.1)]) ?_
    have hL := hL.e hS128_16 (by omega)
    have wu0 := And.intro (hS128_16.mem wu0.1) (hS128_16.kd wu0.2)
    have hfr : ∀ x, u0 + 15 ≤ x → x < u0 + 15 → x ∉ G128_16.L := fun x h1 h2 => hS128_16.nin (hfr x (Nat.le_trans (dle u0 (a := 14) (c := 15) (by decide)) h1) h2) (Or.inr (Nat.le_trans (dle u0 (a := 15) (c := 15) (by decide)) h1))
    have hkd : ∀ i, i < 15 → G128_16.kd (u0 + i) = kTb (20 + i) := by rw [EX_kd hS128_16]; exact hkd
    have wu0_1 := wu0_1.em hS128_16
    have qu0_0 := hS128_16.rv (Or.inl (dl u0 (a := 0) (c := 14) (by decide))) qu0_0
    have wu0_2 := wu0_2.em hS128_16
    have qu0_1 := hS128_16.rv (Or.inl (dl u0 (a := 0) (c := 14) (by decide))) qu0_1
    have wu0_3 := wu0_3.em hS128_16
    have wu0_3I := (fun i hi => ⟨(wu0_3I i hi).1.em hS128_16, hS128_16.rv (by omega) (wu0_3I i hi).2⟩ : ∀ i, i < tm tab → isA _ (u0 + 4 + i) 13 (tT tab) ∧ GW.rv _ (u0 + 3) i = some (u0 + 4 + i))
    have qu0_3 := hS128_16.rv (Or.inl (dl u0 (a := 0) (c := 14) (by decide))) qu0_3
    have wu0_10 := wu0_10.em hS128_16
    have qu0_4 := hS128_16.rv (Or.inl (dl u0 (a := 0) (c := 14) (by decide))) qu0_4
    have wu0_11 := wu0_11.em hS128_16
    have qu0_5 := hS128_16.rv (Or.inl (dl u0 (a := 0) (c := 14) (by decide))) qu0_5
    have wu0_12 := wu0_12.em hS128_16
    have qu0_6 := hS128_16.rv (Or.inl (dl u0 (a := 0) (c := 14) (by decide))) qu0_6
    have wu0_13 := wu0_13.em hS128_16
    have qu0_7 := hS128_16.rv (Or.inl (dl u0 (a := 0) (c := 14) (by decide))) qu0_7
    have hEX := hEX.tr (hS128_16.mono (c := u0) (d := u0 + 15) (dle u0 (a := 0) (c := 14) (by decide)) (dle u0 (a := 15) (c := 15) (by decide)))
    have hU128_16 : Fr iv118_14 (clr iv118_14 (u0 + 14) 0) (fun b0 _ => b0 = u0 + 14) := Fr.clr Fr.rf (fun _ => rfl)
    have hJ128_16 : FrJ jv118_14 (clr jv118_14 (u0 + 14) 0) (fun b0 _ => b0 = u0 + 14) := FrJ.clr FrJ.rf (fun _ => rfl)
    have hLy := hLy.fr2 hU128_16 hJ128_16 (fun lb j _ _ => by omega) (fun lb j _ _ => by omega)
    have hsz := (fun (i : Nat) (hi : i < tm tab) => (hU128_16 _ _ (by omega)).trans (hsz i hi))
    have hst := (fun (i : Nat) (hi : i < tm tab) => (hU128_16 _ _ (by omega)).trans (hst i hi))
    have iu0_2 := (hU128_16 _ _ (dn u0 (a := 0) (c := 14) (by decide))).trans iu0_2
    have hz10 := (fun (j : Nat) => (hU128_16 _ _ (by omega)).trans (hz10 j))
    have hFr := hFr.tr (hU128_16.mono (P' := fun lb _ => u0 ≤ lb ∧ lb < u0 + 15) (fun lb j h => by rw [h]; exact ⟨dle u0 (a := 0) (c := 14) (by decide), dl u0 (a := 14) (c := 15) (by decide)⟩))
    have hFj := hFj.tr (hJ128_16.mono (P' := fun lb _ => u0 ≤ lb ∧ lb < u0 + 15) (fun lb j h => by rw [h]; exact ⟨dle u0 (a := 0) (c := 14) (by decide), dl u0 (a := 14) (c := 15) (by decide)⟩))
    generalize clr iv118_14 (u0 + 14) 0 = iv128_16 at hH hFr hU128_16 hLy hsz hst iu0_2 hz10
    generalize clr jv118_14 (u0 + 14) 0 = jv128_16 at hH hFj hJ128_16 hLy hsz hst hz10
    refine rg_putrF hE hH cf_X8 fl_X8_47 rfl fn_X8_8 fo_X8_8 hnm (wu0.1) (wu0.2) (v := u0 + 14) (wu0_14.1) dX8_init_130 (fun H locs hH => ?_)
    have hX130_17 := GX.set (G := G128_16) (lb := u0) (k := 8) (v := some (u0 + 14))
    have hS130_17 := EX.set (G := G128_16) (lb := u0) (k := 8) (v := some (u0 + 14))
    have qu0_8 := setR_s (G := G128_16) (lb := u0) (k := 8) (v := some (u0 + 14))
    generalize (G128_16.setR (up2 G128_16.rv u0 8 (some (u0 + 14)))) = G130_17 at hH hX130_17 hS130_17 qu0_8
    have hl : lv_has ls 4 [(0, .ref (G130_17.ad u0)), (1, .ref (G130_17.ad b)), (2, .int (nI (tT tab))), (3, .int (dwn 0))] := by rw [hS130_17.adm (wu0.1), hS130_17.adm (hL.1.1)]; exact hl
    have hL := hL.e hS130_17 (by omega)
    have wu0 := And.intro (hS130_17.mem wu0.1) (hS130_17.kd wu0.2)
    have hfr : ∀ x, u0 + 15 ≤ x → x < u0 + 15 → x ∉ G130_17.L := fun x h1 h2 => hS130_17.nin (hfr x (Nat.le_trans (dle u0 (a := 15) (c := 15) (by decide)) h1) h2) (Or.inr (Nat.le_trans (dle u0 (a := 1) (c := 15) (by decide)) h1))
    have hkd : ∀ i, i < 15 → G130_17.kd (u0 + i) = kTb (20 + i) := by rw [EX_kd hS130_17]; exact hkd
    have wu0_1 := wu0_1.em hS130_17
    have qu0_0 := hX130_17.rv List.not_mem_nil (fun h => absurd h.2 (by decide)) qu0_0
    have wu0_2 := wu0_2.em hS130_17
    have qu0_1 := hX130_17.rv List.not_mem_nil (fun h => absurd h.2 (by decide)) qu0_1
    have wu0_3 := wu0_3.em hS130_17
    have wu0_3I := (fun i hi => ⟨(wu0_3I i hi).1.em hS130_17, hS130_17.rv (by omega) (wu0_3I i hi).2⟩ : ∀ i, i < tm tab → isA _ (u0 + 4 + i) 13 (tT tab) ∧ GW.rv _ (u0 + 3) i = some (u0 + 4 + i))
    have qu0_3 := hX130_17.rv List.not_mem_nil (fun h => absurd h.2 (by decide)) qu0_3
    have wu0_10 := wu0_10.em hS130_17
    have qu0_4 := hX130_17.rv List.not_mem_nil (fun h => absurd h.2 (by decide)) qu0_4
    have wu0_11 := wu0_11.em hS130_17
    have qu0_5 := hX130_17.rv List.not_mem_nil (fun h => absurd h.2 (by decide)) qu0_5
    have wu0_12 := wu0_12.em hS130_17
    have qu0_6 := hX130_17.rv List.not_mem_nil (fun h => absurd h.2 (by decide)) qu0_6
    have wu0_13 := wu0_13.em hS130_17
    have qu0_7 := hX130_17.rv List.not_mem_nil (fun h => absurd h.2 (by decide)) qu0_7
    have wu0_14 := wu0_14.em hS130_17
    have hEX := hEX.tr (hS130_17.mono (c := u0) (d := u0 + 15) (dle u0 (a := 0) (c := 0) (by decide)) (dle u0 (a := 1) (c := 15) (by decide)))
    refine lv_aload_n hE.1 hE.2.1 dX8_init_133 rfl (lv_at hl 0 rfl) ?_
    refine lv_iconst (v := nI 0) hE.1 hE.2.1 dX8_init_134 (by decide) ?_
    refine rg_puti hE hH cf_X8 fl_X8_51 rfl fn_X8_9 (wu0.1) (wu0.2) (v := nI 0) dX8_init_135 (fun H locs hH => ?_)
    have hU135_18 : Fr iv128_16 (up2 iv128_16 u0 9 (nI 0)) (fun b0 j => b0 = u0 ∧ j = 9) := Fr.up Fr.rf ⟨rfl, rfl⟩
    have hJ135_18 : FrJ jv128_16 jv128_16 (fun b0 j => b0 = u0 ∧ j = 9) := FrJ.rf
    have hLy := hLy.fr2 hU135_18 hJ135_18 (fun lb j _ _ => by omega) (fun lb j _ _ => by omega)
    have hsz := (fun (i : Nat) (hi : i < tm tab) => (hU135_18 _ _ (by omega)).trans (hsz i hi))
    have hst := (fun (i : Nat) (hi : i < tm tab) => (hU135_18 _ _ (by omega)).trans (hst i hi))
    have iu0_2 := (hU135_18 _ _ (fun h => absurd h.2 (by decide))).trans iu0_2
    have hz10 := (fun (j : Nat) => (hU135_18 _ _ (by omega)).trans (hz10 j))
    have hFr := hFr.tr (hU135_18.mono (P' := fun lb _ => u0 ≤ lb ∧ lb < u0 + 15) (fun lb j h => by rw [h.1]; exact ⟨dle u0 (a := 0) (c := 0) (by decide), dl u0 (a := 0) (c := 15) (by decide)⟩))
    have hFj := hFj.tr (hJ135_18.mono (P' := fun lb _ => u0 ≤ lb ∧ lb < u0 + 15) (fun lb j h => by rw [h.1]; exact ⟨dle u0 (a := 0) (c := 0) (by decide), dl u0 (a := 0) (c := 15) (by decide)⟩))
    have iu0_9 : (up2 iv128_16 u0 9 (nI 0)) (u0) 9 = nI 0 := up2_s
    generalize up2 iv128_16 u0 9 (nI 0) = iv135_18 at hH hFr hU135_18 hLy hsz hst iu0_2 hz10 iu0_9
    refine W.widen (k := 13) (n := 75000) (by show 0 + 1 + 1 + 1 + (tm tab) + 1 + 1 + 1 + 1 + 1 ≤ 13; omega) (by show 0 + 5 + (tm tab) + (tm tab) + (tm tab) * (tT tab) + (tT tab) + (tT tab) + (tT tab) + (tT tab) + (tC tab) ≤ 75000; omega) ?_
    exact rg_vret hE hr hlk hH ⟨hEX, ⟨wu0, wu0_1, wu0_2, wu0_3, wu0_3I, wu0_10, wu0_11, wu0_12, wu0_13, wu0_14, qu0_0, qu0_1, qu0_3, qu0_4, qu0_5, qu0_6, qu0_7, qu0_8⟩, fun i hi => ⟨hsz i hi, hst i hi⟩, iu0_2, hz10, hFr, hFj⟩ dX8_init_138
  · obtain ⟨i, rfl⟩ : ∃ i, j = i + 1 := ⟨j - 1, by have : j ≠ 0 := fun h => c34 ((dwn_neg (by omega)).mpr h); omega⟩
    have hl : lv_has ls 4 [(0, .ref (G20_4.ad u0)), (1, .ref (G20_4.ad b)), (2, .int (nI (sp (g1 tab) (tm tab) (i + 1)))), (3, .int (nI i))] := hl
    refine lv_aload_n hE.1 hE.2.1 dX8_init_37 rfl (lv_at hl 0 rfl) ?_
    refine rg_getr hE hH cf_X8 fl_X8_20 rfl (wu0.1) (wu0.2) (v := u0 + 2) (qu0_1) dX8_init_38 ?_
    refine lv_iload_n hE.1 hE.2.1 dX8_init_41 rfl (lv_at hl 3 rfl) ?_
    refine lv_iload_n hE.1 hE.2.1 dX8_init_42 rfl (lv_at hl 2 rfl) ?_
    refine rg_iast hE hH (wu0_2.1) (wu0_2.2.1) (by rw [wu0_2.2.2]; omega) (v := nI (sp (g1 tab) (tm tab) (i + 1))) dX8_init_43 (fun H locs hH => ?_)
    refine lv_iload_n hE.1 hE.2.1 dX8_init_44 rfl (lv_at hl 2 rfl) ?_
    refine lv_aload_n hE.1 hE.2.1 dX8_init_45 rfl (lv_at hl 0 rfl) ?_
    refine rg_getr hE hH cf_X8 fl_X8_15 rfl (wu0.1) (wu0.2) (v := u0 + 1) (qu0_0) dX8_init_46 ?_
    refine lv_iload_n hE.1 hE.2.1 dX8_init_49 rfl (lv_at hl 3 rfl) ?_
    refine rg_iald hE hH (wu0_1.1) (wu0_1.2.1) (by rw [wu0_1.2.2]; omega) (v := nI (tf tab i)) ((by rw [up2_l (by omega)]; exact (hF33 _ _ (by omega)).trans (hsz i (by omega)))) dX8_init_50 ?_
    refine lv_iconst (v := nI 1) hE.1 hE.2.1 dX8_init_51 (by decide) ?_
    refine rn_iadd hE dX8_init_52 ?_
    refine rn_imul hE dX8_init_53 ?_
    refine lv_istore_n (lv' := [(2, .int (nI ((sp (g1 tab) (tm tab) (i + 1)) * (tf tab i + 1)))), (0, .ref (G20_4.ad u0)), (1, .ref (G20_4.ad b)), (3, .int (nI i))]) hE.1 hE.2.1 dX8_init_54 rfl hl (by decide) rfl (fun ls hl => ?_)
    have hl : lv_has ls 4 [(2, .int (nI (sp (g1 tab) (tm tab) i))), (0, .ref (G20_4.ad u0)), (1, .ref (G20_4.ad b)), (3, .int (nI i))] := by rw [sp_p (by omega)]; exact hl
    refine lv_iinc (v := dwn i) (lv' := [(3, .int (dwn i)), (2, .int (nI (sp (g1 tab) (tm tab) i))), (0, .ref (G20_4.ad u0)), (1, .ref (G20_4.ad b))]) hE.1 hE.2.1 dX8_init_55 hl (k := 3) rfl (dwn_dec i) (by decide) rfl (fun ls hl => ?_)
    refine lv_goto (tgt := 33) hE.1 hE.2.1 dX8_init_58 (by decide) ?_
    exact ih33 (up2 iv2 (u0 + 2) i (nI (sp (g1 tab) (tm tab) (i + 1))), i) _ _ _ (show i < i + 1 by omega) ⟨by show i ≤ tm tab; omega, fun k h1 h2 => by
      dsimp only at h1 ⊢
      by_cases hki : k = i
      · subst hki; rw [up2_s, sp_s]
      · rw [up2_k hki]; exact hst k (by omega) h2, Fr.up hF33 rfl⟩ (lv_sub hl [2, 3, 1, 0] rfl) hH
