set_option maxRecDepth 100000 in
set_option maxHeartbeats 4000000 in
theorem c_answerOf (l : Launch) (z : ZK) (G : GW) (hG : isM G) (iv : IV) (jv : JV) (T : Nat) (hT : T < 6) (tab : Tab) (hFT : FT iv T tab) (c : Nat) (hc : c < tC tab) : cI l z yX11_answerOf cX11_answerOf 3 (some .int) 1 22 0 0 [.ref (G.ad 0), .int (nI T), .int (nI c)] G iv jv (fun r' G' iv' jv' => G = G' ∧ iv = iv' ∧ jv = jv' ∧ r' = oI (ans tab c)) := by
  intro sz
  refine rg_entry rfl (Nat.le_of_ble_eq_true rfl) ?_
  intro pq eq sq mq bq methq cq ls hE hr hlk hml hnm hl hsz hH
  have hl : lv_has ls 3 [(0, .ref (G.ad 0)), (1, .int (nI T)), (2, .int (nI c))] := hl
  have hB := hFT.1
  have hk := hFT.2.1
  have hA := hFT.2.2
  have h8 := hB.f.1
  have h10 := hB.f.2.1
  have h9 := hB.f.2.2.1
  have h13 := hB.f.2.2.2.1
  have h14 := hB.f.2.2.2.2.1
  have hm5 := hk.2.1
  have hm1 := hk.1
  have hC := hk.2.2.2.1
  have hR40 := hk.2.2.2.2.2.2.1
  refine lv_aload_n hE.1 hE.2.1 dX11_answerOf_0 rfl (lv_at hl 0 rfl) ?_
  refine lv_iload_n hE.1 hE.2.1 dX11_answerOf_1 rfl (lv_at hl 1 rfl) ?_
  refine lv_aload_n hE.1 hE.2.1 dX11_answerOf_2 rfl (lv_at hl 0 rfl) ?_
  refine rm_getr hE hH hG fl_X11_41 rfl (by decide) dX11_answerOf_3 ?_
  refine lv_sipush (v := nI 400) hE.1 hE.2.1 dX11_answerOf_6 (by decide) ?_
  refine lv_iload_n hE.1 hE.2.1 dX11_answerOf_9 rfl (lv_at hl 1 rfl) ?_
  refine rn_imul hE dX11_answerOf_10 ?_
  refine lv_iload_n hE.1 hE.2.1 dX11_answerOf_11 rfl (lv_at hl 2 rfl) ?_
  refine rn_iadd hE dX11_answerOf_12 ?_
  refine rm_iald hE hH hG (k := 15) (by decide) rfl (N := 2400) rfl (n := 400 * T + c) (by omega) (v := oI (frow tab c)) (hA c hc) dX11_answerOf_13 ?_
  refine rg_VI (As := [.int (nI T), .int (oI (frow tab c))]) (rest := []) hE hml hH mc_X11_247 (c_told0 l z G hG iv jv T hT tab hk hB (frow tab c) (fun r hr => frow_lt hr)) hG.1.1 hG.1.2 (by decide) rfl ⟨Nat.le_of_ble_eq_true rfl, Nat.le_of_ble_eq_true rfl⟩ rfl hl.1 (by simp [Value.category]) dX11_answerOf_14 ⟨Nat.le_of_ble_eq_true rfl, Nat.le_of_ble_eq_true rfl⟩ (fun r14 G14 iv14 jv14 H locs hp14 hH => ?_)
  obtain ⟨rfl, rfl, rfl, rfl⟩ := hp14
  exact rg_iret hE hr rfl hlk hH ⟨rfl, rfl, rfl, rfl⟩ dX11_answerOf_17
theorem bI_none {o : Option Nat} (h : ∀ k, o = some k → k < 2147483648) : bI (decide (oI o = -1)) = nI (if o.isNone then 1 else 0) := by
  cases o with
  | none => rfl
  | some k =>
    have h3 : ¬ oI (some k) = -1 := nI_ne_m1 (h k rfl)
    rw [decide_eq_false h3]; rfl
theorem fnd_congr {p q : Nat → Bool} {n : Nat} (h : ∀ j, j < n → p j = q j) : fnd p n = fnd q n := by
  cases hp : fnd p n with
  | none =>
    symm
    apply fnd_none
    intro j hj
    rw [← h j hj]
    unfold fnd at hp
    rw [List.find?_eq_none] at hp
    have := hp j (List.mem_range.mpr hj)
    simpa using this
  | some k =>
    obtain ⟨h1, h2, h3⟩ := fnd_lt hp
    exact (fnd_some h1 (by rw [← h k h1]; exact h2) (fun j hj => by rw [← h j (by omega)]; exact h3 j hj)).symm
set_option maxRecDepth 100000 in
set_option maxHeartbeats 4000000 in
theorem c_isIdle (l : Launch) (z : ZK) (G : GW) (hG : isM G) (iv : IV) (jv : JV) (T : Nat) (hT : T < 6) (tab : Tab) (hFT : FT iv T tab) (r : Nat) (hr2 : r < tR tab) : cI l z yX11_isIdle cX11_isIdle 4 (some .boolean) 3 74 0 0 [.ref (G.ad 0), .int (nI T), .int (nI r)] G iv jv (fun r' G' iv' jv' => G = G' ∧ iv = iv' ∧ jv = jv' ∧ r' = bI (idl tab r)) := by
  intro sz
  refine rg_entry rfl (Nat.le_of_ble_eq_true rfl) ?_
  intro pq eq sq mq bq methq cq ls hE hr hlk hml hnm hl hsz hH
  have hl : lv_has ls 4 [(0, .ref (G.ad 0)), (1, .int (nI T)), (2, .int (nI r))] := hl
  have hB := hFT.1
  have hk := hFT.2.1
  have hA := hFT.2.2
  have h8 := hB.f.1
  have h10 := hB.f.2.1
  have h9 := hB.f.2.2.1
  have h13 := hB.f.2.2.2.1
  have h14 := hB.f.2.2.2.2.1
  have hm5 := hk.2.1
  have hm1 := hk.1
  have hC := hk.2.2.2.1
  have hR40 := hk.2.2.2.2.2.2.1
  refine lv_iconst (v := nI 0) hE.1 hE.2.1 dX11_isIdle_0 (by decide) ?_
  refine lv_istore_n (lv' := [(3, .int (nI 0)), (0, .ref (G.ad 0)), (1, .int (nI T)), (2, .int (nI r))]) hE.1 hE.2.1 dX11_isIdle_1 rfl hl (by decide) rfl (fun ls hl => ?_)
  refine rg_loop (σ := Nat) (nL := 4) (fun (c : Nat) => tC tab - c) (fun (c : Nat) => [(0, .ref (G.ad 0)), (1, .int (nI T)), (2, .int (nI r)), (3, .int (nI c))]) (fun (c : Nat) => G) (fun (c : Nat) => iv) (fun (c : Nat) => jv) (fun (c : Nat) => c ≤ tC tab ∧ ∀ j, j < c → frow tab j = some r → (frowX tab j r).map (tvv tab) = some (tvv tab r)) ?_ (0) ⟨Nat.zero_le _, fun j hj => absurd hj (Nat.not_lt_zero j)⟩ (lv_sub hl [1, 2, 3, 0] rfl) hH
  rintro c H locs ls ⟨hcC, hall⟩ hl hH ih2
  try dsimp only at hl hH ih2
  refine lv_iload_n hE.1 hE.2.1 dX11_isIdle_2 rfl (lv_at hl 3 rfl) ?_
  refine lv_aload_n hE.1 hE.2.1 dX11_isIdle_3 rfl (lv_at hl 0 rfl) ?_
  refine lv_iload_n hE.1 hE.2.1 dX11_isIdle_4 rfl (lv_at hl 1 rfl) ?_
  refine rg_VI (As := [.int (nI T)]) (rest := [.int (nI c)]) hE hml hH mc_X11_205 (c_casesOf l z G hG iv jv T (tm tab) hT hm5 (tf tab) h8 h10) hG.1.1 hG.1.2 (by decide) rfl ⟨Nat.le_of_ble_eq_true rfl, Nat.le_of_ble_eq_true rfl⟩ rfl hl.1 (by simp [Value.category]) dX11_isIdle_5 ⟨Nat.le_of_ble_eq_true rfl, Nat.le_of_ble_eq_true rfl⟩ (fun r5 G5 iv5 jv5 H locs hp5 hH => ?_)
  obtain ⟨rfl, rfl, rfl, rfl⟩ := hp5
  refine rn_as (v' := nI (tC tab)) rfl ?_
  refine rn_icmp_ge (tgt := 61) hE dX11_isIdle_8 (by decide) (by omega) (by omega) (fun c8 => ?_) (fun c8 => ?_)
  · refine lv_iconst (v := nI 1) hE.1 hE.2.1 dX11_isIdle_61 (by decide) ?_
    exact rg_iret hE hr (nz_1) hlk hH ⟨rfl, rfl, rfl, one_bI (by
      unfold idl
      rw [decide_eq_true_eq]
      exact fun j hj h => hall j (by omega) h)⟩ dX11_isIdle_62
  · refine lv_aload_n hE.1 hE.2.1 dX11_isIdle_11 rfl (lv_at hl 0 rfl) ?_
    refine rm_getr hE hH hG fl_X11_41 rfl (by decide) dX11_isIdle_12 ?_
    refine lv_sipush (v := nI 400) hE.1 hE.2.1 dX11_isIdle_15 (by decide) ?_
    refine lv_iload_n hE.1 hE.2.1 dX11_isIdle_18 rfl (lv_at hl 1 rfl) ?_
    refine rn_imul hE dX11_isIdle_19 ?_
    refine lv_iload_n hE.1 hE.2.1 dX11_isIdle_20 rfl (lv_at hl 3 rfl) ?_
    refine rn_iadd hE dX11_isIdle_21 ?_
    refine rm_iald hE hH hG (k := 15) (by decide) rfl (N := 2400) rfl (n := 400 * T + c) (by omega) (v := oI (frow tab c)) (hA c (by omega)) dX11_isIdle_22 ?_
    refine lv_iload_n hE.1 hE.2.1 dX11_isIdle_23 rfl (lv_at hl 2 rfl) ?_
    refine lv_icmp_ne (tgt := 55) hE.1 hE.2.1 dX11_isIdle_24 (by decide) (fun c24 => ?_) (fun c24 => ?_)
    · refine lv_iinc (v := nI (c + 1)) (lv' := [(3, .int (nI (c + 1))), (0, .ref (G.ad 0)), (1, .int (nI T)), (2, .int (nI r))]) hE.1 hE.2.1 dX11_isIdle_55 hl (k := 3) rfl (nI_1 _) (by decide) rfl (fun ls hl => ?_)
      refine lv_goto (tgt := 2) hE.1 hE.2.1 dX11_isIdle_58 (by decide) ?_
      exact ih2 (c + 1) _ _ _ (by omega) ⟨by omega, fun j hj hfr => by
        by_cases hjc : j = c
        · subst hjc
          exact absurd (by rw [hfr]; rfl) c24
        · exact hall j (by omega) hfr⟩ (lv_sub hl [1, 2, 3, 0] rfl) hH
    · have hfr : frow tab c = some r := by
        cases h : frow tab c with
        | none => rw [h] at c24; exact absurd c24.symm (nI_ne_m1 (by omega))
        | some w => rw [h, oI, nI_eq (by have := frow_lt h; omega) (by omega)] at c24; rw [c24]
      have hvr := (hk.2.2.2.2.2.2.2 r hr2).2
      have hO6 := hk.2.2.2.2.2.1
      have hxl : ∀ w, (frowX tab c r).map (tvv tab) = some w → w < 6 := by
        intro w hw
        cases h : frowX tab c r with
        | none => rw [h] at hw; cases hw
        | some q => rw [h] at hw; cases hw; have := (hk.2.2.2.2.2.2.2 q (fnd_lt h).1).2; omega
      refine lv_aload_n hE.1 hE.2.1 dX11_isIdle_27 rfl (lv_at hl 0 rfl) ?_
      refine lv_iload_n hE.1 hE.2.1 dX11_isIdle_28 rfl (lv_at hl 1 rfl) ?_
      refine lv_aload_n hE.1 hE.2.1 dX11_isIdle_29 rfl (lv_at hl 0 rfl) ?_
      refine lv_iload_n hE.1 hE.2.1 dX11_isIdle_30 rfl (lv_at hl 1 rfl) ?_
      refine lv_iload_n hE.1 hE.2.1 dX11_isIdle_31 rfl (lv_at hl 3 rfl) ?_
      refine lv_iload_n hE.1 hE.2.1 dX11_isIdle_32 rfl (lv_at hl 2 rfl) ?_
      refine rg_VI (As := [.int (nI T), .int (nI c), .int (nI r)]) (rest := [.int (nI T), .ref (G.ad 0)]) hE hml hH mc_X11_221 (c_firstRow l z G hG iv jv T hT tab hk hB c (nI r) (by omega)) hG.1.1 hG.1.2 (by decide) rfl ⟨Nat.le_of_ble_eq_true rfl, Nat.le_of_ble_eq_true rfl⟩ rfl hl.1 (by simp [Value.category]) dX11_isIdle_33 ⟨Nat.le_of_ble_eq_true rfl, Nat.le_of_ble_eq_true rfl⟩ (fun r33 G33 iv33 jv33 H locs hp33 hH => ?_)
      obtain ⟨rfl, rfl, rfl, rfl⟩ := hp33
      have hX1 : fnd (fun q => decide (nI q ≠ nI r) && fit tab q c) (tR tab) = frowX tab c r := by
        unfold frowX
        apply fnd_congr
        intro j hj
        rw [decide_eq_decide.mpr (not_congr (nI_eq (by omega) (by omega)))]
      rw [hX1]
      refine rg_VI (As := [.int (nI T), .int (oI (frowX tab c r))]) (rest := []) hE hml hH mc_X11_247 (c_told0 l z G hG iv jv T hT tab hk hB (frowX tab c r) (fun q hq => (fnd_lt hq).1)) hG.1.1 hG.1.2 (by decide) rfl ⟨Nat.le_of_ble_eq_true rfl, Nat.le_of_ble_eq_true rfl⟩ rfl hl.1 (by simp [Value.category]) dX11_isIdle_36 ⟨Nat.le_of_ble_eq_true rfl, Nat.le_of_ble_eq_true rfl⟩ (fun r36 G36 iv36 jv36 H locs hp36 hH => ?_)
      obtain ⟨rfl, rfl, rfl, rfl⟩ := hp36
      refine lv_aload_n hE.1 hE.2.1 dX11_isIdle_39 rfl (lv_at hl 0 rfl) ?_
      refine rm_getr hE hH hG fl_X11_38 rfl (by decide) dX11_isIdle_40 ?_
      refine lv_bipush (v := nI 40) hE.1 hE.2.1 dX11_isIdle_43 (by decide) ?_
      refine lv_iload_n hE.1 hE.2.1 dX11_isIdle_45 rfl (lv_at hl 1 rfl) ?_
      refine rn_imul hE dX11_isIdle_46 ?_
      refine lv_iload_n hE.1 hE.2.1 dX11_isIdle_47 rfl (lv_at hl 2 rfl) ?_
      refine rn_iadd hE dX11_isIdle_48 ?_
      refine rm_iald hE hH hG (k := 14) (by decide) rfl (N := 240) rfl (n := 40 * T + r) (by omega) (v := nI (tvv tab r)) (h14 r hr2) dX11_isIdle_49 ?_
      refine lv_icmp_eq (tgt := 55) hE.1 hE.2.1 dX11_isIdle_50 (by decide) (fun c50 => ?_) (fun c50 => ?_)
      · refine lv_iinc (v := nI (c + 1)) (lv' := [(3, .int (nI (c + 1))), (0, .ref (G.ad 0)), (1, .int (nI T)), (2, .int (nI r))]) hE.1 hE.2.1 dX11_isIdle_55 hl (k := 3) rfl (nI_1 _) (by decide) rfl (fun ls hl => ?_)
        refine lv_goto (tgt := 2) hE.1 hE.2.1 dX11_isIdle_58 (by decide) ?_
        exact ih2 (c + 1) _ _ _ (by omega) ⟨by omega, fun j hj hfr => by
          by_cases hjc : j = c
          · subst hjc
            cases hX : (frowX tab j r).map (tvv tab) with
            | none => rw [hX] at c50; exact absurd c50.symm (nI_ne_m1 (by omega))
            | some w => rw [hX, oI, nI_eq (by have := hxl w hX; omega) (by omega)] at c50; rw [c50]
          · exact hall j (by omega) hfr⟩ (lv_sub hl [1, 2, 3, 0] rfl) hH
      · refine lv_iconst (v := nI 0) hE.1 hE.2.1 dX11_isIdle_53 (by decide) ?_
        exact rg_iret hE hr (nz_0) hlk hH ⟨rfl, rfl, rfl, zero_bI (by
          unfold idl
          rw [decide_eq_false_iff_not]
          intro h
          have := h c (by omega) hfr
          rw [this] at c50
          exact c50 rfl)⟩ dX11_isIdle_54
set_option maxRecDepth 100000 in
set_option maxHeartbeats 4000000 in
theorem c_quarrelAt (l : Launch) (z : ZK) (G : GW) (hG : isM G) (iv : IV) (jv : JV) (T : Nat) (hT : T < 6) (tab : Tab) (hFT : FT iv T tab) (a b : Nat) (ha : a < tR tab) (hb2 : b < tR tab) : cI l z yX11_quarrelAt cX11_quarrelAt 5 (some .int) 2 50 0 0 [.ref (G.ad 0), .int (nI T), .int (nI a), .int (nI b)] G iv jv (fun r' G' iv' jv' => G = G' ∧ iv = iv' ∧ jv = jv' ∧ r' = oI (qAt tab a b)) := by
  intro sz
  refine rg_entry rfl (Nat.le_of_ble_eq_true rfl) ?_
  intro pq eq sq mq bq methq cq ls hE hr hlk hml hnm hl hsz hH
  have hl : lv_has ls 5 [(0, .ref (G.ad 0)), (1, .int (nI T)), (2, .int (nI a)), (3, .int (nI b))] := hl
  have hB := hFT.1
  have hk := hFT.2.1
  have hA := hFT.2.2
  have h8 := hB.f.1
  have h10 := hB.f.2.1
  have h9 := hB.f.2.2.1
  have h13 := hB.f.2.2.2.1
  have h14 := hB.f.2.2.2.2.1
  have hm5 := hk.2.1
  have hm1 := hk.1
  have hC := hk.2.2.2.1
  have hR40 := hk.2.2.2.2.2.2.1
  refine lv_aload_n hE.1 hE.2.1 dX11_quarrelAt_0 rfl (lv_at hl 0 rfl) ?_
  refine rm_getr hE hH hG fl_X11_38 rfl (by decide) dX11_quarrelAt_1 ?_
  refine lv_bipush (v := nI 40) hE.1 hE.2.1 dX11_quarrelAt_4 (by decide) ?_
  refine lv_iload_n hE.1 hE.2.1 dX11_quarrelAt_6 rfl (lv_at hl 1 rfl) ?_
  refine rn_imul hE dX11_quarrelAt_7 ?_
  refine lv_iload_n hE.1 hE.2.1 dX11_quarrelAt_8 rfl (lv_at hl 2 rfl) ?_
  refine rn_iadd hE dX11_quarrelAt_9 ?_
  refine rm_iald hE hH hG (k := 14) (by decide) rfl (N := 240) rfl (n := 40 * T + a) (by omega) (v := nI (tvv tab a)) (h14 a ha) dX11_quarrelAt_10 ?_
  refine lv_aload_n hE.1 hE.2.1 dX11_quarrelAt_11 rfl (lv_at hl 0 rfl) ?_
  refine rm_getr hE hH hG fl_X11_38 rfl (by decide) dX11_quarrelAt_12 ?_
  refine lv_bipush (v := nI 40) hE.1 hE.2.1 dX11_quarrelAt_15 (by decide) ?_
  refine lv_iload_n hE.1 hE.2.1 dX11_quarrelAt_17 rfl (lv_at hl 1 rfl) ?_
  refine rn_imul hE dX11_quarrelAt_18 ?_
  refine lv_iload_n hE.1 hE.2.1 dX11_quarrelAt_19 rfl (lv_at hl 3 rfl) ?_
  refine rn_iadd hE dX11_quarrelAt_20 ?_
  refine rm_iald hE hH hG (k := 14) (by decide) rfl (N := 240) rfl (n := 40 * T + b) (by omega) (v := nI (tvv tab b)) (h14 b hb2) dX11_quarrelAt_21 ?_
  refine rn_icmp_ne (tgt := 27) hE dX11_quarrelAt_22 (by decide) (by have := (hk.2.2.2.2.2.2.2 a ha).2; have := hk.2.2.2.2.2.1; omega) (by have := (hk.2.2.2.2.2.2.2 b hb2).2; have := hk.2.2.2.2.2.1; omega) (fun c22 => ?_) (fun c22 => ?_)
  · refine lv_iconst (v := nI 0) hE.1 hE.2.1 dX11_quarrelAt_27 (by decide) ?_
    refine lv_istore (lv' := [(4, .int (nI 0)), (0, .ref (G.ad 0)), (1, .int (nI T)), (2, .int (nI a)), (3, .int (nI b))]) hE.1 hE.2.1 dX11_quarrelAt_28 hl (by decide) rfl (fun ls hl => ?_)
    refine rg_loop (σ := Nat) (nL := 5) (fun (c : Nat) => tC tab - c) (fun (c : Nat) => [(0, .ref (G.ad 0)), (1, .int (nI T)), (2, .int (nI a)), (3, .int (nI b)), (4, .int (nI c))]) (fun (c : Nat) => G) (fun (c : Nat) => iv) (fun (c : Nat) => jv) (fun (c : Nat) => c ≤ tC tab ∧ ∀ j, j < c → (fit tab a j && fit tab b j) = false) ?_ (0) ⟨Nat.zero_le _, fun j hj => absurd hj (Nat.not_lt_zero j)⟩ (lv_sub hl [1, 2, 3, 4, 0] rfl) hH
    rintro c H locs ls ⟨hcC, hno⟩ hl hH ih30
    try dsimp only at hl hH ih30
    refine lv_iload hE.1 hE.2.1 dX11_quarrelAt_30 (lv_at hl 4 rfl) ?_
    refine lv_aload_n hE.1 hE.2.1 dX11_quarrelAt_32 rfl (lv_at hl 0 rfl) ?_
    refine lv_iload_n hE.1 hE.2.1 dX11_quarrelAt_33 rfl (lv_at hl 1 rfl) ?_
    refine rg_VI (As := [.int (nI T)]) (rest := [.int (nI c)]) hE hml hH mc_X11_205 (c_casesOf l z G hG iv jv T (tm tab) hT hm5 (tf tab) h8 h10) hG.1.1 hG.1.2 (by decide) rfl ⟨Nat.le_of_ble_eq_true rfl, Nat.le_of_ble_eq_true rfl⟩ rfl hl.1 (by simp [Value.category]) dX11_quarrelAt_34 ⟨Nat.le_of_ble_eq_true rfl, Nat.le_of_ble_eq_true rfl⟩ (fun r34 G34 iv34 jv34 H locs hp34 hH => ?_)
    obtain ⟨rfl, rfl, rfl, rfl⟩ := hp34
    refine rn_as (v' := nI (tC tab)) rfl ?_
    refine rn_icmp_ge (tgt := 71) hE dX11_quarrelAt_37 (by decide) (by omega) (by omega) (fun c37 => ?_) (fun c37 => ?_)
    · refine lv_iconst (v := -1) hE.1 hE.2.1 dX11_quarrelAt_71 (by decide) ?_
      exact rg_iret hE hr rfl hlk hH ⟨rfl, rfl, rfl, by rw [qAt, if_neg c22, fnd_none (fun j hj => hno j (by omega))]; rfl⟩ dX11_quarrelAt_72
    · refine lv_aload_n hE.1 hE.2.1 dX11_quarrelAt_40 rfl (lv_at hl 0 rfl) ?_
      refine lv_iload_n hE.1 hE.2.1 dX11_quarrelAt_41 rfl (lv_at hl 1 rfl) ?_
      refine lv_iload_n hE.1 hE.2.1 dX11_quarrelAt_42 rfl (lv_at hl 2 rfl) ?_
      refine lv_iload hE.1 hE.2.1 dX11_quarrelAt_43 (lv_at hl 4 rfl) ?_
      refine rg_VI (As := [.int (nI T), .int (nI a), .int (nI c)]) (rest := []) hE hml hH mc_X11_243 (c_fits l z G hG iv jv T hT tab hk hB a c (by omega) (by omega)) hG.1.1 hG.1.2 (by decide) rfl ⟨Nat.le_of_ble_eq_true rfl, Nat.le_of_ble_eq_true rfl⟩ rfl hl.1 (by simp [Value.category]) dX11_quarrelAt_45 ⟨Nat.le_of_ble_eq_true rfl, Nat.le_of_ble_eq_true rfl⟩ (fun r45 G45 iv45 jv45 H locs hp45 hH => ?_)
      obtain ⟨rfl, rfl, rfl, rfl⟩ := hp45
      refine rn_ifb_eq (tgt := 65) hE dX11_quarrelAt_48 (by decide) (fun c48 => ?_) (fun c48 => ?_)
      · refine lv_iinc (v := nI (c + 1)) (lv' := [(4, .int (nI (c + 1))), (0, .ref (G.ad 0)), (1, .int (nI T)), (2, .int (nI a)), (3, .int (nI b))]) hE.1 hE.2.1 dX11_quarrelAt_65 hl (k := 4) rfl (nI_1 _) (by decide) rfl (fun ls hl => ?_)
        refine lv_goto (tgt := 30) hE.1 hE.2.1 dX11_quarrelAt_68 (by decide) ?_
        exact ih30 (c + 1) _ _ _ (by omega) ⟨by omega, fun j hj => by
          by_cases hjc : j = c
          · subst hjc; simp [c48]
          · exact hno j (by omega)⟩ (lv_sub hl [1, 2, 3, 4, 0] rfl) hH
      · refine lv_aload_n hE.1 hE.2.1 dX11_quarrelAt_51 rfl (lv_at hl 0 rfl) ?_
        refine lv_iload_n hE.1 hE.2.1 dX11_quarrelAt_52 rfl (lv_at hl 1 rfl) ?_
        refine lv_iload_n hE.1 hE.2.1 dX11_quarrelAt_53 rfl (lv_at hl 3 rfl) ?_
        refine lv_iload hE.1 hE.2.1 dX11_quarrelAt_54 (lv_at hl 4 rfl) ?_
        refine rg_VI (As := [.int (nI T), .int (nI b), .int (nI c)]) (rest := []) hE hml hH mc_X11_243 (c_fits l z G hG iv jv T hT tab hk hB b c (by omega) (by omega)) hG.1.1 hG.1.2 (by decide) rfl ⟨Nat.le_of_ble_eq_true rfl, Nat.le_of_ble_eq_true rfl⟩ rfl hl.1 (by simp [Value.category]) dX11_quarrelAt_56 ⟨Nat.le_of_ble_eq_true rfl, Nat.le_of_ble_eq_true rfl⟩ (fun r56 G56 iv56 jv56 H locs hp56 hH => ?_)
        obtain ⟨rfl, rfl, rfl, rfl⟩ := hp56
        refine rn_ifb_eq (tgt := 65) hE dX11_quarrelAt_59 (by decide) (fun c59 => ?_) (fun c59 => ?_)
        · refine lv_iinc (v := nI (c + 1)) (lv' := [(4, .int (nI (c + 1))), (0, .ref (G.ad 0)), (1, .int (nI T)), (2, .int (nI a)), (3, .int (nI b))]) hE.1 hE.2.1 dX11_quarrelAt_65 hl (k := 4) rfl (nI_1 _) (by decide) rfl (fun ls hl => ?_)
          refine lv_goto (tgt := 30) hE.1 hE.2.1 dX11_quarrelAt_68 (by decide) ?_
          exact ih30 (c + 1) _ _ _ (by omega) ⟨by omega, fun j hj => by
            by_cases hjc : j = c
            · subst hjc; simp [c59]
            · exact hno j (by omega)⟩ (lv_sub hl [1, 2, 3, 4, 0] rfl) hH
        · refine lv_iload hE.1 hE.2.1 dX11_quarrelAt_62 (lv_at hl 4 rfl) ?_
          exact rg_iret hE hr rfl hlk hH ⟨rfl, rfl, rfl, by rw [qAt, if_neg c22, fnd_some (k := c) (by omega) (by simp [c48, c59]) hno]; rfl⟩ dX11_quarrelAt_64
  · refine lv_iconst (v := -1) hE.1 hE.2.1 dX11_quarrelAt_25 (by decide) ?_
    exact rg_iret hE hr rfl hlk hH ⟨rfl, rfl, rfl, by rw [qAt, if_pos c22]; rfl⟩ dX11_quarrelAt_26
set_option maxRecDepth 100000 in
set_option maxHeartbeats 4000000 in
theorem c_holes (l : Launch) (z : ZK) (G : GW) (hG : isM G) (iv : IV) (jv : JV) (T : Nat) (hT : T < 6) (tab : Tab) (hFT : FT iv T tab) : cI l z yX11_holes cX11_holes 4 (some .int) 1 23 0 0 [.ref (G.ad 0), .int (nI T)] G iv jv (fun r' G' iv' jv' => G = G' ∧ iv = iv' ∧ jv = jv' ∧ r' = nI (cntN (fun c => (frow tab c).isNone) (tC tab))) := by
  intro sz
  refine rg_entry rfl (Nat.le_of_ble_eq_true rfl) ?_
  intro pq eq sq mq bq methq cq ls hE hr hlk hml hnm hl hsz hH
  have hl : lv_has ls 4 [(0, .ref (G.ad 0)), (1, .int (nI T))] := hl
  have hB := hFT.1
  have hk := hFT.2.1
  have hA := hFT.2.2
  have h8 := hB.f.1
  have h10 := hB.f.2.1
  have h9 := hB.f.2.2.1
  have h13 := hB.f.2.2.2.1
  have h14 := hB.f.2.2.2.2.1
  have hm5 := hk.2.1
  have hm1 := hk.1
  have hC := hk.2.2.2.1
  have hR40 := hk.2.2.2.2.2.2.1
  refine lv_iconst (v := nI 0) hE.1 hE.2.1 dX11_holes_0 (by decide) ?_
  refine lv_istore_n (lv' := [(2, .int (nI 0)), (0, .ref (G.ad 0)), (1, .int (nI T))]) hE.1 hE.2.1 dX11_holes_1 rfl hl (by decide) rfl (fun ls hl => ?_)
  refine lv_iconst (v := nI 0) hE.1 hE.2.1 dX11_holes_2 (by decide) ?_
  refine lv_istore_n (lv' := [(3, .int (nI 0)), (2, .int (nI 0)), (0, .ref (G.ad 0)), (1, .int (nI T))]) hE.1 hE.2.1 dX11_holes_3 rfl hl (by decide) rfl (fun ls hl => ?_)
  refine rg_loop (σ := Nat) (nL := 4) (fun (c : Nat) => tC tab - c) (fun (c : Nat) => [(0, .ref (G.ad 0)), (1, .int (nI T)), (2, .int (nI (cntN (fun c => (frow tab c).isNone) c))), (3, .int (nI c))]) (fun (c : Nat) => G) (fun (c : Nat) => iv) (fun (c : Nat) => jv) (fun (c : Nat) => c ≤ tC tab) ?_ (0) (Nat.zero_le _) (lv_sub hl [2, 3, 1, 0] rfl) hH
  rintro c H locs ls hcC hl hH ih4
  try dsimp only at hl hH ih4
  refine lv_iload_n hE.1 hE.2.1 dX11_holes_4 rfl (lv_at hl 3 rfl) ?_
  refine lv_aload_n hE.1 hE.2.1 dX11_holes_5 rfl (lv_at hl 0 rfl) ?_
  refine lv_iload_n hE.1 hE.2.1 dX11_holes_6 rfl (lv_at hl 1 rfl) ?_
  refine rg_VI (As := [.int (nI T)]) (rest := [.int (nI c)]) hE hml hH mc_X11_205 (c_casesOf l z G hG iv jv T (tm tab) hT hm5 (tf tab) h8 h10) hG.1.1 hG.1.2 (by decide) rfl ⟨Nat.le_of_ble_eq_true rfl, Nat.le_of_ble_eq_true rfl⟩ rfl hl.1 (by simp [Value.category]) dX11_holes_7 ⟨Nat.le_of_ble_eq_true rfl, Nat.le_of_ble_eq_true rfl⟩ (fun r7 G7 iv7 jv7 H locs hp7 hH => ?_)
  obtain ⟨rfl, rfl, rfl, rfl⟩ := hp7
  refine rn_as (v' := nI (tC tab)) rfl ?_
  refine rn_icmp_ge (tgt := 43) hE dX11_holes_10 (by decide) (by omega) (by omega) (fun c10 => ?_) (fun c10 => ?_)
  · refine lv_iload_n hE.1 hE.2.1 dX11_holes_43 rfl (lv_at hl 2 rfl) ?_
    exact rg_iret hE hr rfl hlk hH ⟨rfl, rfl, rfl, by rw [show tC tab = c by omega]⟩ dX11_holes_44
  · refine lv_iload_n hE.1 hE.2.1 dX11_holes_13 rfl (lv_at hl 2 rfl) ?_
    refine lv_aload_n hE.1 hE.2.1 dX11_holes_14 rfl (lv_at hl 0 rfl) ?_
    refine rm_getr hE hH hG fl_X11_41 rfl (by decide) dX11_holes_15 ?_
    refine lv_sipush (v := nI 400) hE.1 hE.2.1 dX11_holes_18 (by decide) ?_
    refine lv_iload_n hE.1 hE.2.1 dX11_holes_21 rfl (lv_at hl 1 rfl) ?_
    refine rn_imul hE dX11_holes_22 ?_
    refine lv_iload_n hE.1 hE.2.1 dX11_holes_23 rfl (lv_at hl 3 rfl) ?_
    refine rn_iadd hE dX11_holes_24 ?_
    refine rm_iald hE hH hG (k := 15) (by decide) rfl (N := 2400) rfl (n := 400 * T + c) (by omega) (v := oI (frow tab c)) (hA c (by omega)) dX11_holes_25 ?_
    refine lv_iconst (v := -1) hE.1 hE.2.1 dX11_holes_26 (by decide) ?_
    refine rb_raw_ne (t1 := 34) (t2 := 35) hE dX11_holes_27 (by decide) dX11_holes_30 dX11_holes_31 (by decide) dX11_holes_34 rfl ?_
    refine rn_as (v' := nI (if (frow tab c).isNone then 1 else 0)) (bI_none (fun k hk2 => by have := frow_lt hk2; omega)) ?_
    refine rn_iadd hE dX11_holes_35 ?_
    refine lv_istore_n (lv' := [(2, .int (nI (cntN (fun c => (frow tab c).isNone) c + (if (frow tab c).isNone then 1 else 0)))), (0, .ref (G.ad 0)), (1, .int (nI T)), (3, .int (nI c))]) hE.1 hE.2.1 dX11_holes_36 rfl hl (by decide) rfl (fun ls hl => ?_)
    refine lv_iinc (v := nI (c + 1)) (lv' := [(3, .int (nI (c + 1))), (2, .int (nI (cntN (fun c => (frow tab c).isNone) c + (if (frow tab c).isNone then 1 else 0)))), (0, .ref (G.ad 0)), (1, .int (nI T))]) hE.1 hE.2.1 dX11_holes_37 hl (k := 3) rfl (nI_1 _) (by decide) rfl (fun ls hl => ?_)
    refine lv_goto (tgt := 4) hE.1 hE.2.1 dX11_holes_40 (by decide) ?_
    exact ih4 (c + 1) _ _ _ (by omega) (by omega) (lv_sub hl [2, 3, 1, 0] rfl) hH
set_option maxRecDepth 100000 in
set_option maxHeartbeats 4000000 in
theorem c_terms (l : Launch) (z : ZK) (G : GW) (hG : isM G) (iv : IV) (jv : JV) (T : Nat) (hT : T < 6) (tab : Tab) (hk : tabOK tab) (hB : TABL iv T tab) : cI l z yX11_terms cX11_terms 4 (some .int) 0 0 0 0 [.ref (G.ad 0), .int (nI T)] G iv jv (fun r' G' iv' jv' => G = G' ∧ iv = iv' ∧ jv = jv' ∧ r' = nI (tT tab)) := by
  intro sz
  refine rg_entry rfl (Nat.le_of_ble_eq_true rfl) ?_
  intro pq eq sq mq bq methq cq ls hE hr hlk hml hnm hl hsz hH
  have hl : lv_has ls 4 [(0, .ref (G.ad 0)), (1, .int (nI T))] := hl
  have h8 := hB.f.1
  have h10 := hB.f.2.1
  have h9 := hB.f.2.2.1
  have h13 := hB.f.2.2.2.1
  have h14 := hB.f.2.2.2.2.1
  have hm5 := hk.2.1
  have hm1 := hk.1
  have hC := hk.2.2.2.1
  have hR40 := hk.2.2.2.2.2.2.1
  refine lv_iconst (v := nI 1) hE.1 hE.2.1 dX11_terms_0 (by decide) ?_
  refine lv_istore_n (lv' := [(2, .int (nI 1)), (0, .ref (G.ad 0)), (1, .int (nI T))]) hE.1 hE.2.1 dX11_terms_1 rfl hl (by decide) rfl (fun ls hl => ?_)
  refine lv_iconst (v := nI 0) hE.1 hE.2.1 dX11_terms_2 (by decide) ?_
  refine lv_istore_n (lv' := [(3, .int (nI 0)), (2, .int (nI 1)), (0, .ref (G.ad 0)), (1, .int (nI T))]) hE.1 hE.2.1 dX11_terms_3 rfl hl (by decide) rfl (fun ls hl => ?_)
  refine rg_loop (σ := Nat) (nL := 4) (fun (i : Nat) => tm tab - i) (fun (i : Nat) => [(0, .ref (G.ad 0)), (1, .int (nI T)), (2, .int (nI (prd (fun i => tf tab i + 1) i))), (3, .int (nI i))]) (fun (i : Nat) => G) (fun (i : Nat) => iv) (fun (i : Nat) => jv) (fun (i : Nat) => i ≤ tm tab) ?_ (0) (Nat.zero_le _) (lv_sub hl [2, 3, 1, 0] rfl) hH
  rintro i H locs ls hi hl hH ih4
  try dsimp only at hl hH ih4
  refine lv_iload_n hE.1 hE.2.1 dX11_terms_4 rfl (lv_at hl 3 rfl) ?_
  refine lv_aload_n hE.1 hE.2.1 dX11_terms_5 rfl (lv_at hl 0 rfl) ?_
  refine rm_getr hE hH hG fl_X11_20 rfl (by decide) dX11_terms_6 ?_
  refine lv_iload_n hE.1 hE.2.1 dX11_terms_9 rfl (lv_at hl 1 rfl) ?_
  refine rm_iald hE hH hG (k := 8) (by decide) rfl (N := 6) rfl (n := T) (by omega) (v := nI (tm tab)) (h8) dX11_terms_10 ?_
  refine rn_icmp_ge (tgt := 36) hE dX11_terms_11 (by decide) (by omega) (by omega) (fun c11 => ?_) (fun c11 => ?_)
  · refine lv_iload_n hE.1 hE.2.1 dX11_terms_36 rfl (lv_at hl 2 rfl) ?_
    exact rg_iret hE hr rfl hlk hH ⟨rfl, rfl, rfl, by rw [tT, show tm tab = i by omega]⟩ dX11_terms_37
  · refine lv_iload_n hE.1 hE.2.1 dX11_terms_14 rfl (lv_at hl 2 rfl) ?_
    refine lv_aload_n hE.1 hE.2.1 dX11_terms_15 rfl (lv_at hl 0 rfl) ?_
    refine rm_getr hE hH hG fl_X11_26 rfl (by decide) dX11_terms_16 ?_
    refine lv_bipush (v := nI 6) hE.1 hE.2.1 dX11_terms_19 (by decide) ?_
    refine lv_iload_n hE.1 hE.2.1 dX11_terms_21 rfl (lv_at hl 1 rfl) ?_
    refine rn_imul hE dX11_terms_22 ?_
    refine lv_iload_n hE.1 hE.2.1 dX11_terms_23 rfl (lv_at hl 3 rfl) ?_
    refine rn_iadd hE dX11_terms_24 ?_
    refine rm_iald hE hH hG (k := 10) (by decide) rfl (N := 36) rfl (n := 6 * T + i) (by omega) (v := nI (tf tab i)) (h10 i (by omega)) dX11_terms_25 ?_
    refine lv_iconst (v := nI 1) hE.1 hE.2.1 dX11_terms_26 (by decide) ?_
    refine rn_iadd hE dX11_terms_27 ?_
    refine rn_imul hE dX11_terms_28 ?_
    refine lv_istore_n (lv' := [(2, .int (nI ((prd (fun i => tf tab i + 1) i) * (tf tab i + 1)))), (0, .ref (G.ad 0)), (1, .int (nI T)), (3, .int (nI i))]) hE.1 hE.2.1 dX11_terms_29 rfl hl (by decide) rfl (fun ls hl => ?_)
    refine lv_iinc (v := nI (i + 1)) (lv' := [(3, .int (nI (i + 1))), (2, .int (nI ((prd (fun i => tf tab i + 1) i) * (tf tab i + 1)))), (0, .ref (G.ad 0)), (1, .int (nI T))]) hE.1 hE.2.1 dX11_terms_30 hl (k := 3) rfl (nI_1 _) (by decide) rfl (fun ls hl => ?_)
    refine lv_goto (tgt := 4) hE.1 hE.2.1 dX11_terms_33 (by decide) ?_
    exact ih4 (i + 1) _ _ _ (by omega) (by omega) (lv_sub hl [2, 3, 1, 0] rfl) hH
set_option maxRecDepth 100000 in
set_option maxHeartbeats 4000000 in
theorem c_termAt (l : Launch) (z : ZK) (G : GW) (hG : isM G) (iv : IV) (jv : JV) (T : Nat) (hT : T < 6) (tab : Tab) (hk : tabOK tab) (hB : TABL iv T tab) (t i : Nat) (ht : t < 2147483648) (hi : i < tm tab) : cI l z yX11_termAt cX11_termAt 6 (some .int) 0 0 0 0 [.ref (G.ad 0), .int (nI T), .int (nI t), .int (nI i)] G iv jv (fun r' G' iv' jv' => G = G' ∧ iv = iv' ∧ jv = jv' ∧ r' = oI (tAt tab t i)) := by
  intro sz
  refine rg_entry rfl (Nat.le_of_ble_eq_true rfl) ?_
  intro pq eq sq mq bq methq cq ls hE hr hlk hml hnm hl hsz hH
  have hl : lv_has ls 6 [(0, .ref (G.ad 0)), (1, .int (nI T)), (2, .int (nI t)), (3, .int (nI i))] := hl
  have h8 := hB.f.1
  have h10 := hB.f.2.1
  have h9 := hB.f.2.2.1
  have h13 := hB.f.2.2.2.1
  have h14 := hB.f.2.2.2.2.1
  have hm5 := hk.2.1
  have hm1 := hk.1
  have hC := hk.2.2.2.1
  have hR40 := hk.2.2.2.2.2.2.1
  refine lv_iload_n hE.1 hE.2.1 dX11_termAt_0 rfl (lv_at hl 2 rfl) ?_
  refine lv_istore (lv' := [(4, .int (nI t)), (0, .ref (G.ad 0)), (1, .int (nI T)), (2, .int (nI t)), (3, .int (nI i))]) hE.1 hE.2.1 dX11_termAt_1 hl (by decide) rfl (fun ls hl => ?_)
  refine lv_aload_n hE.1 hE.2.1 dX11_termAt_3 rfl (lv_at hl 1 rfl) ?_
  refine rm_getr hE hH hG fl_X11_20 rfl (by decide) dX11_termAt_4 ?_
  refine lv_iload_n hE.1 hE.2.1 dX11_termAt_7 rfl (lv_at hl 2 rfl) ?_
  refine rm_iald hE hH hG (k := 8) (by decide) rfl (N := 6) rfl (n := T) (by omega) (v := nI (tm tab)) (h8) dX11_termAt_8 ?_
  refine lv_iconst (v := nI 1) hE.1 hE.2.1 dX11_termAt_9 (by decide) ?_
  refine rn_isub hE dX11_termAt_10 (by omega) ?_
  refine lv_istore (lv' := [(5, .int (nI ((tm tab) - 1))), (4, .int (nI t)), (0, .ref (G.ad 0)), (1, .int (nI T)), (2, .int (nI t)), (3, .int (nI i))]) hE.1 hE.2.1 dX11_termAt_11 hl (by decide) rfl (fun ls hl => ?_)
  refine rg_loop (σ := Nat × Nat) (nL := 6) (fun (u : Nat × Nat) => match u with | (o, v) => o - i) (fun (u : Nat × Nat) => match u with | (o, v) => [(0, .ref (G.ad 0)), (1, .int (nI T)), (3, .int (nI i)), (4, .int (nI v)), (5, .int (nI o))]) (fun (u : Nat × Nat) => match u with | (o, v) => G) (fun (u : Nat × Nat) => match u with | (o, v) => iv) (fun (u : Nat × Nat) => match u with | (o, v) => jv) (fun (u : Nat × Nat) => match u with | (o, v) => i ≤ o ∧ o < tm tab ∧ v ≤ t ∧ dq (fun i => tf tab i + 1) i (o + 1) v = dq (fun i => tf tab i + 1) i (tm tab) t) ?_ ((tm tab - 1, t)) ⟨by show i ≤ tm tab - 1; omega, by show tm tab - 1 < tm tab; omega, Nat.le_refl _, by show dq _ i (tm tab - 1 + 1) t = _; rw [show tm tab - 1 + 1 = tm tab by omega]⟩ (lv_sub hl [2, 3, 5, 1, 0] rfl) hH
  rintro ⟨o, v⟩ H locs ls ⟨hio, hom, hvc, hdq⟩ hl hH ih13
  try dsimp only at hl hH ih13
  try dsimp only at hio hom hvc hdq
  refine lv_iload hE.1 hE.2.1 dX11_termAt_13 (lv_at hl 4 rfl) ?_
  refine lv_iload_n hE.1 hE.2.1 dX11_termAt_15 rfl (lv_at hl 2 rfl) ?_
  refine rn_icmp_le (tgt := 44) hE dX11_termAt_16 (by decide) (by omega) (by omega) (fun c16 => ?_) (fun c16 => ?_)
  · refine lv_iload hE.1 hE.2.1 dX11_termAt_44 (lv_at hl 3 rfl) ?_
    refine lv_aload_n hE.1 hE.2.1 dX11_termAt_46 rfl (lv_at hl 0 rfl) ?_
    refine rm_getr hE hH hG fl_X11_26 rfl (by decide) dX11_termAt_47 ?_
    refine lv_bipush (v := nI 6) hE.1 hE.2.1 dX11_termAt_50 (by decide) ?_
    refine lv_iload_n hE.1 hE.2.1 dX11_termAt_52 rfl (lv_at hl 1 rfl) ?_
    refine rn_imul hE dX11_termAt_53 ?_
    refine lv_iload_n hE.1 hE.2.1 dX11_termAt_54 rfl (lv_at hl 2 rfl) ?_
    refine rn_iadd hE dX11_termAt_55 ?_
    refine rm_iald hE hH hG (k := 10) (by decide) rfl (N := 36) rfl (n := 6 * T + i) (by omega) (v := nI (tf tab i)) (h10 i (by omega)) dX11_termAt_56 ?_
    refine lv_iconst (v := nI 1) hE.1 hE.2.1 dX11_termAt_57 (by decide) ?_
    refine rn_iadd hE dX11_termAt_58 ?_
    refine rn_irem hE dX11_termAt_59 (by have := hk.2.2.1 i (by omega); omega) (by have := hk.2.2.1 i (by omega); omega) (by omega) ?_
    have hvv : v % (tf tab i + 1) = vOf (fun i => tf tab i + 1) (tm tab) t i := by rw [vOf, ← hdq, dq, if_neg (by omega)]
    have hvl : v % (tf tab i + 1) < tf tab i + 1 := Nat.mod_lt _ (Nat.succ_pos _)
    refine lv_istore (lv' := [(4, .int (nI (v % (tf tab i + 1)))), (0, .ref (G.ad 0)), (1, .int (nI T)), (3, .int (nI i)), (5, .int (nI o))]) hE.1 hE.2.1 dX11_termAt_60 hl (by decide) rfl (fun ls hl => ?_)
    refine lv_iload hE.1 hE.2.1 dX11_termAt_62 (lv_at hl 0 rfl) ?_
    refine lv_aload_n hE.1 hE.2.1 dX11_termAt_64 rfl (lv_at hl 1 rfl) ?_
    refine rm_getr hE hH hG fl_X11_26 rfl (by decide) dX11_termAt_65 ?_
    refine lv_bipush (v := nI 6) hE.1 hE.2.1 dX11_termAt_68 (by decide) ?_
    refine lv_iload_n hE.1 hE.2.1 dX11_termAt_70 rfl (lv_at hl 2 rfl) ?_
    refine rn_imul hE dX11_termAt_71 ?_
    refine lv_iload_n hE.1 hE.2.1 dX11_termAt_72 rfl (lv_at hl 3 rfl) ?_
    refine rn_iadd hE dX11_termAt_73 ?_
    refine rm_iald hE hH hG (k := 10) (by decide) rfl (N := 36) rfl (n := 6 * T + i) (by omega) (v := nI (tf tab i)) (h10 i (by omega)) dX11_termAt_74 ?_
    refine rn_icmp_ne (tgt := 82) hE dX11_termAt_75 (by decide) (by have := hk.2.2.1 i (by omega); omega) (by have := hk.2.2.1 i (by omega); omega) (fun c75 => ?_) (fun c75 => ?_)
    · refine lv_iload hE.1 hE.2.1 dX11_termAt_82 (lv_at hl 0 rfl) ?_
      exact rg_iret hE hr rfl hlk hH ⟨rfl, rfl, rfl, by rw [tAt, if_neg (by rw [← hvv]; exact c75), oI, hvv]⟩ dX11_termAt_84
    · refine lv_iconst (v := -1) hE.1 hE.2.1 dX11_termAt_78 (by decide) ?_
      refine lv_goto (tgt := 84) hE.1 hE.2.1 dX11_termAt_79 (by decide) ?_
      exact rg_iret hE hr rfl hlk hH ⟨rfl, rfl, rfl, by rw [tAt, if_pos (by rw [← hvv]; exact c75)]; rfl⟩ dX11_termAt_84
  · refine lv_iload hE.1 hE.2.1 dX11_termAt_19 (lv_at hl 3 rfl) ?_
    refine lv_aload_n hE.1 hE.2.1 dX11_termAt_21 rfl (lv_at hl 0 rfl) ?_
    refine rm_getr hE hH hG fl_X11_26 rfl (by decide) dX11_termAt_22 ?_
    refine lv_bipush (v := nI 6) hE.1 hE.2.1 dX11_termAt_25 (by decide) ?_
    refine lv_iload_n hE.1 hE.2.1 dX11_termAt_27 rfl (lv_at hl 1 rfl) ?_
    refine rn_imul hE dX11_termAt_28 ?_
    refine lv_iload hE.1 hE.2.1 dX11_termAt_29 (lv_at hl 4 rfl) ?_
    refine rn_iadd hE dX11_termAt_31 ?_
    refine rm_iald hE hH hG (k := 10) (by decide) rfl (N := 36) rfl (n := 6 * T + o) (by omega) (v := nI (tf tab o)) (h10 o (by omega)) dX11_termAt_32 ?_
    refine lv_iconst (v := nI 1) hE.1 hE.2.1 dX11_termAt_33 (by decide) ?_
    refine rn_iadd hE dX11_termAt_34 ?_
    refine rn_idiv hE dX11_termAt_35 (by have := hk.2.2.1 o (by omega); omega) (by have := hk.2.2.1 o (by omega); omega) (by omega) ?_
    refine lv_istore (lv' := [(4, .int (nI (v / (tf tab o + 1)))), (0, .ref (G.ad 0)), (1, .int (nI T)), (3, .int (nI i)), (5, .int (nI o))]) hE.1 hE.2.1 dX11_termAt_36 hl (by decide) rfl (fun ls hl => ?_)
    refine lv_iinc (v := nI (o - 1)) (lv' := [(5, .int (nI (o - 1))), (4, .int (nI (v / (tf tab o + 1)))), (0, .ref (G.ad 0)), (1, .int (nI T)), (3, .int (nI i))]) hE.1 hE.2.1 dX11_termAt_38 hl (k := 4) rfl (sb_m1 (by omega)) (by decide) rfl (fun ls hl => ?_)
    refine lv_goto (tgt := 13) hE.1 hE.2.1 dX11_termAt_41 (by decide) ?_
    exact ih13 (o - 1, v / (tf tab o + 1)) _ _ _ (show o - 1 - i < o - i by omega) ⟨by show i ≤ o - 1; omega, by show o - 1 < tm tab; omega, Nat.le_trans (Nat.div_le_self _ _) hvc, by dsimp only; rw [show o - 1 + 1 = o by omega, ← hdq, dq, if_pos (by omega)]⟩ (lv_sub hl [2, 3, 4, 1, 0] rfl) hH
