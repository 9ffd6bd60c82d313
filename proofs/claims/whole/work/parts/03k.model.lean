set_option maxRecDepth 100000 in
set_option maxHeartbeats 4000000 in
theorem c_valueOf (l : Launch) (z : ZK) (G : GW) (hG : isM G) (iv : IV) (jv : JV) (T : Nat) (hT : T < 6) (tab : Tab) (hk : tabOK tab) (hB : TABL iv T tab) (c i : Nat) (hc : c < 2147483648) (hi : i < tm tab) : cI l z yX11_valueOf cX11_valueOf 6 (some .int) 0 0 0 0 [.ref (G.ad 0), .int (nI T), .int (nI c), .int (nI i)] G iv jv (fun r G' iv' jv' => G = G' ∧ iv = iv' ∧ jv = jv' ∧ r = nI (vOf (tf tab) (tm tab) c i)) := by
  intro sz
  refine rg_entry rfl (Nat.le_of_ble_eq_true rfl) ?_
  intro pq eq sq mq bq methq cq ls hE hr hlk hml hnm hl hsz hH
  have hl : lv_has ls 6 [(0, .ref (G.ad 0)), (1, .int (nI T)), (2, .int (nI c)), (3, .int (nI i))] := hl
  have h8 := hB.f.1
  have h10 := hB.f.2.1
  have h9 := hB.f.2.2.1
  have h13 := hB.f.2.2.2.1
  have h14 := hB.f.2.2.2.2.1
  have hm5 := hk.2.1
  have hm1 := hk.1
  have hC := hk.2.2.2.1
  have hR40 := hk.2.2.2.2.2.2.1
  refine lv_iload_n hE.1 hE.2.1 dX11_valueOf_0 rfl (lv_at hl 2 rfl) ?_
  refine lv_istore (lv' := [(4, .int (nI c)), (0, .ref (G.ad 0)), (1, .int (nI T)), (2, .int (nI c)), (3, .int (nI i))]) hE.1 hE.2.1 dX11_valueOf_1 hl (by decide) rfl (fun ls hl => ?_)
  refine lv_aload_n hE.1 hE.2.1 dX11_valueOf_3 rfl (lv_at hl 1 rfl) ?_
  refine rm_getr hE hH hG fl_X11_20 rfl (by decide) dX11_valueOf_4 ?_
  refine lv_iload_n hE.1 hE.2.1 dX11_valueOf_7 rfl (lv_at hl 2 rfl) ?_
  refine rm_iald hE hH hG (k := 8) (by decide) rfl (N := 6) rfl (n := T) (by omega) (v := nI (tm tab)) (h8) dX11_valueOf_8 ?_
  refine lv_iconst (v := nI 1) hE.1 hE.2.1 dX11_valueOf_9 (by decide) ?_
  refine rn_isub hE dX11_valueOf_10 (by omega) ?_
  refine lv_istore (lv' := [(5, .int (nI ((tm tab) - 1))), (4, .int (nI c)), (0, .ref (G.ad 0)), (1, .int (nI T)), (2, .int (nI c)), (3, .int (nI i))]) hE.1 hE.2.1 dX11_valueOf_11 hl (by decide) rfl (fun ls hl => ?_)
  refine rg_loop (σ := Nat × Nat) (nL := 6) (fun (u : Nat × Nat) => match u with | (o, v) => o - i) (fun (u : Nat × Nat) => match u with | (o, v) => [(0, .ref (G.ad 0)), (1, .int (nI T)), (3, .int (nI i)), (4, .int (nI v)), (5, .int (nI o))]) (fun (u : Nat × Nat) => match u with | (o, v) => G) (fun (u : Nat × Nat) => match u with | (o, v) => iv) (fun (u : Nat × Nat) => match u with | (o, v) => jv) (fun (u : Nat × Nat) => match u with | (o, v) => i ≤ o ∧ o < tm tab ∧ v ≤ c ∧ dq (tf tab) i (o + 1) v = dq (tf tab) i (tm tab) c) ?_ ((tm tab - 1, c)) ⟨by show i ≤ tm tab - 1; omega, by show tm tab - 1 < tm tab; omega, Nat.le_refl _, by show dq (tf tab) i (tm tab - 1 + 1) c = _; rw [show tm tab - 1 + 1 = tm tab by omega]⟩ (lv_sub hl [2, 3, 5, 1, 0] rfl) hH
  rintro ⟨o, v⟩ H locs ls ⟨hio, hom, hvc, hdq⟩ hl hH ih13
  try dsimp only at hl hH ih13
  try dsimp only at hio hom hvc hdq
  refine lv_iload hE.1 hE.2.1 dX11_valueOf_13 (lv_at hl 4 rfl) ?_
  refine lv_iload_n hE.1 hE.2.1 dX11_valueOf_15 rfl (lv_at hl 2 rfl) ?_
  refine rn_icmp_le (tgt := 42) hE dX11_valueOf_16 (by decide) (by omega) (by omega) (fun c16 => ?_) (fun c16 => ?_)
  · refine lv_iload hE.1 hE.2.1 dX11_valueOf_42 (lv_at hl 3 rfl) ?_
    refine lv_aload_n hE.1 hE.2.1 dX11_valueOf_44 rfl (lv_at hl 0 rfl) ?_
    refine rm_getr hE hH hG fl_X11_26 rfl (by decide) dX11_valueOf_45 ?_
    refine lv_bipush (v := nI 6) hE.1 hE.2.1 dX11_valueOf_48 (by decide) ?_
    refine lv_iload_n hE.1 hE.2.1 dX11_valueOf_50 rfl (lv_at hl 1 rfl) ?_
    refine rn_imul hE dX11_valueOf_51 ?_
    refine lv_iload_n hE.1 hE.2.1 dX11_valueOf_52 rfl (lv_at hl 2 rfl) ?_
    refine rn_iadd hE dX11_valueOf_53 ?_
    refine rm_iald hE hH hG (k := 10) (by decide) rfl (N := 36) rfl (n := 6 * T + i) (by omega) (v := nI (tf tab i)) (h10 i (by omega)) dX11_valueOf_54 ?_
    refine rn_irem hE dX11_valueOf_55 (by have := hk.2.2.1 i (by omega); omega) (by have := hk.2.2.1 i (by omega); omega) (by omega) ?_
    exact rg_iret hE hr rfl hlk hH ⟨rfl, rfl, rfl, by rw [vOf, ← hdq, dq, if_neg (by omega)]⟩ dX11_valueOf_56
  · refine lv_iload hE.1 hE.2.1 dX11_valueOf_19 (lv_at hl 3 rfl) ?_
    refine lv_aload_n hE.1 hE.2.1 dX11_valueOf_21 rfl (lv_at hl 0 rfl) ?_
    refine rm_getr hE hH hG fl_X11_26 rfl (by decide) dX11_valueOf_22 ?_
    refine lv_bipush (v := nI 6) hE.1 hE.2.1 dX11_valueOf_25 (by decide) ?_
    refine lv_iload_n hE.1 hE.2.1 dX11_valueOf_27 rfl (lv_at hl 1 rfl) ?_
    refine rn_imul hE dX11_valueOf_28 ?_
    refine lv_iload hE.1 hE.2.1 dX11_valueOf_29 (lv_at hl 4 rfl) ?_
    refine rn_iadd hE dX11_valueOf_31 ?_
    refine rm_iald hE hH hG (k := 10) (by decide) rfl (N := 36) rfl (n := 6 * T + o) (by omega) (v := nI (tf tab o)) (h10 o (by omega)) dX11_valueOf_32 ?_
    refine rn_idiv hE dX11_valueOf_33 (by have := hk.2.2.1 o (by omega); omega) (by have := hk.2.2.1 o (by omega); omega) (by omega) ?_
    refine lv_istore (lv' := [(4, .int (nI (v / (tf tab o)))), (0, .ref (G.ad 0)), (1, .int (nI T)), (3, .int (nI i)), (5, .int (nI o))]) hE.1 hE.2.1 dX11_valueOf_34 hl (by decide) rfl (fun ls hl => ?_)
    refine lv_iinc (v := nI (o - 1)) (lv' := [(5, .int (nI (o - 1))), (4, .int (nI (v / (tf tab o)))), (0, .ref (G.ad 0)), (1, .int (nI T)), (3, .int (nI i))]) hE.1 hE.2.1 dX11_valueOf_36 hl (k := 4) rfl (sb_m1 (by omega)) (by decide) rfl (fun ls hl => ?_)
    refine lv_goto (tgt := 13) hE.1 hE.2.1 dX11_valueOf_39 (by decide) ?_
    exact ih13 (o - 1, v / tf tab o) _ _ _ (show o - 1 - i < o - i by omega) ⟨by show i ≤ o - 1; omega, by show o - 1 < tm tab; omega, Nat.le_trans (Nat.div_le_self _ _) hvc, by dsimp only; rw [show o - 1 + 1 = o by omega, ← hdq, dq, if_pos (by omega)]⟩ (lv_sub hl [2, 3, 4, 1, 0] rfl) hH
set_option maxRecDepth 100000 in
set_option maxHeartbeats 4000000 in
theorem c_fits (l : Launch) (z : ZK) (G : GW) (hG : isM G) (iv : IV) (jv : JV) (T : Nat) (hT : T < 6) (tab : Tab) (hk : tabOK tab) (hB : TABL iv T tab) (r c : Nat) (hr2 : r < tR tab) (hc : c < 2147483648) : cI l z yX11_fits cX11_fits 6 (some .boolean) 1 25 0 0 [.ref (G.ad 0), .int (nI T), .int (nI r), .int (nI c)] G iv jv (fun r' G' iv' jv' => G = G' ∧ iv = iv' ∧ jv = jv' ∧ r' = bI (fit tab r c)) := by
  intro sz
  refine rg_entry rfl (Nat.le_of_ble_eq_true rfl) ?_
  intro pq eq sq mq bq methq cq ls hE hr hlk hml hnm hl hsz hH
  have hl : lv_has ls 6 [(0, .ref (G.ad 0)), (1, .int (nI T)), (2, .int (nI r)), (3, .int (nI c))] := hl
  have h8 := hB.f.1
  have h10 := hB.f.2.1
  have h9 := hB.f.2.2.1
  have h13 := hB.f.2.2.2.1
  have h14 := hB.f.2.2.2.2.1
  have hm5 := hk.2.1
  have hm1 := hk.1
  have hC := hk.2.2.2.1
  have hR40 := hk.2.2.2.2.2.2.1
  refine lv_iconst (v := nI 1) hE.1 hE.2.1 dX11_fits_0 (by decide) ?_
  refine lv_istore (lv' := [(4, .int (nI 1)), (0, .ref (G.ad 0)), (1, .int (nI T)), (2, .int (nI r)), (3, .int (nI c))]) hE.1 hE.2.1 dX11_fits_1 hl (by decide) rfl (fun ls hl => ?_)
  have hl : lv_has ls 6 [(4, .int (bI true)), (0, .ref (G.ad 0)), (1, .int (nI T)), (2, .int (nI r)), (3, .int (nI c))] := hl
  refine lv_iconst (v := nI 0) hE.1 hE.2.1 dX11_fits_3 (by decide) ?_
  refine lv_istore (lv' := [(5, .int (nI 0)), (4, .int (bI true)), (0, .ref (G.ad 0)), (1, .int (nI T)), (2, .int (nI r)), (3, .int (nI c))]) hE.1 hE.2.1 dX11_fits_4 hl (by decide) rfl (fun ls hl => ?_)
  refine rg_loop (σ := Bool × Nat) (nL := 6) (fun (u : Bool × Nat) => match u with | (b, i) => tm tab - i) (fun (u : Bool × Nat) => match u with | (b, i) => [(0, .ref (G.ad 0)), (1, .int (nI T)), (2, .int (nI r)), (3, .int (nI c)), (4, .int (bI b)), (5, .int (nI i))]) (fun (u : Bool × Nat) => match u with | (b, i) => G) (fun (u : Bool × Nat) => match u with | (b, i) => iv) (fun (u : Bool × Nat) => match u with | (b, i) => jv) (fun (u : Bool × Nat) => match u with | (b, i) => i ≤ tm tab ∧ b = ftI (tce tab r) (tf tab) (tm tab) c i) ?_ ((true, 0)) ⟨Nat.zero_le _, rfl⟩ (lv_sub hl [2, 3, 4, 5, 1, 0] rfl) hH
  rintro ⟨b, i⟩ H locs ls ⟨him, hb⟩ hl hH ih6
  try dsimp only at hl hH ih6
  try dsimp only at him hb
  refine lv_iload hE.1 hE.2.1 dX11_fits_6 (lv_at hl 5 rfl) ?_
  refine lv_aload_n hE.1 hE.2.1 dX11_fits_8 rfl (lv_at hl 0 rfl) ?_
  refine rm_getr hE hH hG fl_X11_20 rfl (by decide) dX11_fits_9 ?_
  refine lv_iload_n hE.1 hE.2.1 dX11_fits_12 rfl (lv_at hl 1 rfl) ?_
  refine rm_iald hE hH hG (k := 8) (by decide) rfl (N := 6) rfl (n := T) (by omega) (v := nI (tm tab)) (h8) dX11_fits_13 ?_
  refine rn_icmp_ge (tgt := 66) hE dX11_fits_14 (by decide) (by omega) (by omega) (fun c14 => ?_) (fun c14 => ?_)
  · have hie : i = tm tab := by omega
    have hres : fit tab r c = b := by rw [hb, hie]; rfl
    refine lv_iload hE.1 hE.2.1 dX11_fits_66 (lv_at hl 4 rfl) ?_
    exact rg_iret hE hr nz_bI hlk hH ⟨rfl, rfl, rfl, by rw [hres]⟩ dX11_fits_68
  · refine lv_iload hE.1 hE.2.1 dX11_fits_17 (lv_at hl 4 rfl) ?_
    refine rn_ifb_eq (tgt := 66) hE dX11_fits_19 (by decide) (fun c19 => ?_) (fun c19 => ?_)
    · have hres : fit tab r c = b := by rw [c19] at hb ⊢; exact ftI_le hb.symm him
      refine lv_iload hE.1 hE.2.1 dX11_fits_66 (lv_at hl 4 rfl) ?_
      exact rg_iret hE hr nz_bI hlk hH ⟨rfl, rfl, rfl, by rw [hres]⟩ dX11_fits_68
    · refine lv_aload_n hE.1 hE.2.1 dX11_fits_22 rfl (lv_at hl 0 rfl) ?_
      refine rm_getr hE hH hG fl_X11_35 rfl (by decide) dX11_fits_23 ?_
      refine lv_iconst (v := nI 5) hE.1 hE.2.1 dX11_fits_26 (by decide) ?_
      refine lv_bipush (v := nI 40) hE.1 hE.2.1 dX11_fits_27 (by decide) ?_
      refine lv_iload_n hE.1 hE.2.1 dX11_fits_29 rfl (lv_at hl 1 rfl) ?_
      refine rn_imul hE dX11_fits_30 ?_
      refine lv_iload_n hE.1 hE.2.1 dX11_fits_31 rfl (lv_at hl 2 rfl) ?_
      refine rn_iadd hE dX11_fits_32 ?_
      refine rn_imul hE dX11_fits_33 ?_
      refine lv_iload hE.1 hE.2.1 dX11_fits_34 (lv_at hl 5 rfl) ?_
      refine rn_iadd hE dX11_fits_36 ?_
      refine rm_iald hE hH hG (k := 13) (by decide) rfl (N := 1200) rfl (n := 5 * (40 * T + r) + i) (by omega) (v := nI (tce tab r i)) (h13 r i hr2 (by omega)) dX11_fits_37 ?_
      refine lv_aload_n hE.1 hE.2.1 dX11_fits_38 rfl (lv_at hl 0 rfl) ?_
      refine lv_iload_n hE.1 hE.2.1 dX11_fits_39 rfl (lv_at hl 1 rfl) ?_
      refine lv_iload_n hE.1 hE.2.1 dX11_fits_40 rfl (lv_at hl 3 rfl) ?_
      refine lv_iload hE.1 hE.2.1 dX11_fits_41 (lv_at hl 5 rfl) ?_
      refine rg_VI (As := [.int (nI T), .int (nI c), .int (nI i)]) (rest := [.int (nI (tce tab r i))]) hE hml hH mc_X11_240 (c_valueOf l z G hG iv jv T hT tab hk hB c i (by omega) (by omega)) hG.1.1 hG.1.2 (by decide) rfl ⟨Nat.le_of_ble_eq_true rfl, Nat.le_of_ble_eq_true rfl⟩ rfl hl.1 (by simp [Value.category]) dX11_fits_43 ⟨Nat.le_of_ble_eq_true rfl, Nat.le_of_ble_eq_true rfl⟩ (fun r43 G43 iv43 jv43 H locs hp43 hH => ?_)
      obtain ⟨rfl, rfl, rfl, rfl⟩ := hp43
      refine lv_ishr hE.1 hE.2.1 dX11_fits_46 ?_
      refine lv_iconst (v := nI 1) hE.1 hE.2.1 dX11_fits_47 (by decide) ?_
      refine lv_iand hE.1 hE.2.1 dX11_fits_48 ?_
      refine lv_iconst (v := nI 1) hE.1 hE.2.1 dX11_fits_49 (by decide) ?_
      refine rb_raw_ne (t1 := 57) (t2 := 58) hE dX11_fits_50 (by decide) dX11_fits_53 dX11_fits_54 (by decide) dX11_fits_57 rfl ?_
      refine lv_istore (lv' := [(4, .int (bI (decide (((nI (tce tab r i)) >>> ((nI (vOf (tf tab) (tm tab) c i)) &&& 31)) &&& (nI 1) = nI 1)))), (0, .ref (G.ad 0)), (1, .int (nI T)), (2, .int (nI r)), (3, .int (nI c)), (5, .int (nI i))]) hE.1 hE.2.1 dX11_fits_58 hl (by decide) rfl (fun ls hl => ?_)
      refine lv_iinc (v := nI (i + 1)) (lv' := [(5, .int (nI (i + 1))), (4, .int (bI (decide (((nI (tce tab r i)) >>> ((nI (vOf (tf tab) (tm tab) c i)) &&& 31)) &&& (nI 1) = nI 1)))), (0, .ref (G.ad 0)), (1, .int (nI T)), (2, .int (nI r)), (3, .int (nI c))]) hE.1 hE.2.1 dX11_fits_60 hl (k := 5) rfl (nI_1 _) (by decide) rfl (fun ls hl => ?_)
      refine lv_goto (tgt := 6) hE.1 hE.2.1 dX11_fits_63 (by decide) ?_
      exact ih6 (decide _, i + 1) _ _ _ (show tm tab - (i + 1) < tm tab - i by omega) ⟨by show i + 1 ≤ tm tab; omega, by dsimp only; rw [ftI, ← hb, c19, Bool.true_and, Bool.eq_iff_iff, decide_eq_true_eq]; exact bit_t _ ((hk.2.2.2.2.2.2.2 r hr2).1 i) _ (vOf_lt hk (by omega))⟩ (lv_sub hl [2, 3, 4, 5, 1, 0] rfl) hH
set_option maxRecDepth 100000 in
set_option maxHeartbeats 4000000 in
theorem c_firstRow (l : Launch) (z : ZK) (G : GW) (hG : isM G) (iv : IV) (jv : JV) (T : Nat) (hT : T < 6) (tab : Tab) (hk : tabOK tab) (hB : TABL iv T tab) (c : Nat) (x : Int32) (hc : c < 2147483648) : cI l z yX11_firstRow cX11_firstRow 5 (some .int) 2 50 0 0 [.ref (G.ad 0), .int (nI T), .int (nI c), .int (x)] G iv jv (fun r' G' iv' jv' => G = G' ∧ iv = iv' ∧ jv = jv' ∧ r' = oI (fnd (fun r => decide (nI r ≠ x) && fit tab r c) (tR tab))) := by
  intro sz
  refine rg_entry rfl (Nat.le_of_ble_eq_true rfl) ?_
  intro pq eq sq mq bq methq cq ls hE hr hlk hml hnm hl hsz hH
  have hl : lv_has ls 5 [(0, .ref (G.ad 0)), (1, .int (nI T)), (2, .int (nI c)), (3, .int (x))] := hl
  have h8 := hB.f.1
  have h10 := hB.f.2.1
  have h9 := hB.f.2.2.1
  have h13 := hB.f.2.2.2.1
  have h14 := hB.f.2.2.2.2.1
  have hm5 := hk.2.1
  have hm1 := hk.1
  have hC := hk.2.2.2.1
  have hR40 := hk.2.2.2.2.2.2.1
  refine lv_iconst (v := nI 0) hE.1 hE.2.1 dX11_firstRow_0 (by decide) ?_
  refine lv_istore (lv' := [(4, .int (nI 0)), (0, .ref (G.ad 0)), (1, .int (nI T)), (2, .int (nI c)), (3, .int (x))]) hE.1 hE.2.1 dX11_firstRow_1 hl (by decide) rfl (fun ls hl => ?_)
  refine rg_loop (σ := Nat) (nL := 5) (fun (r : Nat) => tR tab - r) (fun (r : Nat) => [(0, .ref (G.ad 0)), (1, .int (nI T)), (2, .int (nI c)), (3, .int (x)), (4, .int (nI r))]) (fun (r : Nat) => G) (fun (r : Nat) => iv) (fun (r : Nat) => jv) (fun (r : Nat) => r ≤ tR tab ∧ ∀ j, j < r → (decide (nI j ≠ x) && fit tab j c) = false) ?_ (0) ⟨Nat.zero_le _, fun j hj => absurd hj (Nat.not_lt_zero j)⟩ (lv_sub hl [1, 2, 3, 4, 0] rfl) hH
  rintro r H locs ls ⟨hrR, hno⟩ hl hH ih3
  try dsimp only at hl hH ih3
  refine lv_iload hE.1 hE.2.1 dX11_firstRow_3 (lv_at hl 4 rfl) ?_
  refine lv_aload_n hE.1 hE.2.1 dX11_firstRow_5 rfl (lv_at hl 0 rfl) ?_
  refine rm_getr hE hH hG fl_X11_23 rfl (by decide) dX11_firstRow_6 ?_
  refine lv_iload_n hE.1 hE.2.1 dX11_firstRow_9 rfl (lv_at hl 1 rfl) ?_
  refine rm_iald hE hH hG (k := 9) (by decide) rfl (N := 6) rfl (n := T) (by omega) (v := nI (tR tab)) (h9) dX11_firstRow_10 ?_
  refine rn_icmp_ge (tgt := 40) hE dX11_firstRow_11 (by decide) (by omega) (by omega) (fun c11 => ?_) (fun c11 => ?_)
  · refine lv_iconst (v := -1) hE.1 hE.2.1 dX11_firstRow_40 (by decide) ?_
    exact rg_iret hE hr rfl hlk hH ⟨rfl, rfl, rfl, by rw [fnd_none (fun j hj => hno j (by omega))]; rfl⟩ dX11_firstRow_41
  · refine lv_iload hE.1 hE.2.1 dX11_firstRow_14 (lv_at hl 4 rfl) ?_
    refine lv_iload_n hE.1 hE.2.1 dX11_firstRow_16 rfl (lv_at hl 3 rfl) ?_
    refine lv_icmp_eq (tgt := 34) hE.1 hE.2.1 dX11_firstRow_17 (by decide) (fun c17 => ?_) (fun c17 => ?_)
    · refine lv_iinc (v := nI (r + 1)) (lv' := [(4, .int (nI (r + 1))), (0, .ref (G.ad 0)), (1, .int (nI T)), (2, .int (nI c)), (3, .int (x))]) hE.1 hE.2.1 dX11_firstRow_34 hl (k := 4) rfl (nI_1 _) (by decide) rfl (fun ls hl => ?_)
      refine lv_goto (tgt := 3) hE.1 hE.2.1 dX11_firstRow_37 (by decide) ?_
      exact ih3 (r + 1) _ _ _ (by omega) ⟨by omega, fun j hj => by
        by_cases hjr : j = r
        · subst hjr; simp [c17]
        · exact hno j (by omega)⟩ (lv_sub hl [1, 2, 3, 4, 0] rfl) hH
    · refine lv_aload_n hE.1 hE.2.1 dX11_firstRow_20 rfl (lv_at hl 0 rfl) ?_
      refine lv_iload_n hE.1 hE.2.1 dX11_firstRow_21 rfl (lv_at hl 1 rfl) ?_
      refine lv_iload hE.1 hE.2.1 dX11_firstRow_22 (lv_at hl 4 rfl) ?_
      refine lv_iload_n hE.1 hE.2.1 dX11_firstRow_24 rfl (lv_at hl 2 rfl) ?_
      refine rg_VI (As := [.int (nI T), .int (nI r), .int (nI c)]) (rest := []) hE hml hH mc_X11_243 (c_fits l z G hG iv jv T hT tab hk hB r c (by omega) (by omega)) hG.1.1 hG.1.2 (by decide) rfl ⟨Nat.le_of_ble_eq_true rfl, Nat.le_of_ble_eq_true rfl⟩ rfl hl.1 (by simp [Value.category]) dX11_firstRow_25 ⟨Nat.le_of_ble_eq_true rfl, Nat.le_of_ble_eq_true rfl⟩ (fun r25 G25 iv25 jv25 H locs hp25 hH => ?_)
      obtain ⟨rfl, rfl, rfl, rfl⟩ := hp25
      refine rn_ifb_eq (tgt := 34) hE dX11_firstRow_28 (by decide) (fun c28 => ?_) (fun c28 => ?_)
      · refine lv_iinc (v := nI (r + 1)) (lv' := [(4, .int (nI (r + 1))), (0, .ref (G.ad 0)), (1, .int (nI T)), (2, .int (nI c)), (3, .int (x))]) hE.1 hE.2.1 dX11_firstRow_34 hl (k := 4) rfl (nI_1 _) (by decide) rfl (fun ls hl => ?_)
        refine lv_goto (tgt := 3) hE.1 hE.2.1 dX11_firstRow_37 (by decide) ?_
        exact ih3 (r + 1) _ _ _ (by omega) ⟨by omega, fun j hj => by
          by_cases hjr : j = r
          · subst hjr; simp [c28]
          · exact hno j (by omega)⟩ (lv_sub hl [1, 2, 3, 4, 0] rfl) hH
      · refine lv_iload hE.1 hE.2.1 dX11_firstRow_31 (lv_at hl 4 rfl) ?_
        exact rg_iret hE hr rfl hlk hH ⟨rfl, rfl, rfl, by rw [fnd_some (k := r) (by omega) (by simp [c17, c28]) hno]; rfl⟩ dX11_firstRow_33
set_option maxRecDepth 100000 in
set_option maxHeartbeats 4000000 in
theorem c_told0 (l : Launch) (z : ZK) (G : GW) (hG : isM G) (iv : IV) (jv : JV) (T : Nat) (hT : T < 6) (tab : Tab) (hk : tabOK tab) (hB : TABL iv T tab) (o : Option Nat) (ho : ∀ r, o = some r → r < tR tab) : cI l z yX11_told0 cX11_told0 3 (some .int) 0 0 0 0 [.ref (G.ad 0), .int (nI T), .int (oI o)] G iv jv (fun r' G' iv' jv' => G = G' ∧ iv = iv' ∧ jv = jv' ∧ r' = oI (o.map (tvv tab))) := by
  intro sz
  refine rg_entry rfl (Nat.le_of_ble_eq_true rfl) ?_
  intro pq eq sq mq bq methq cq ls hE hr hlk hml hnm hl hsz hH
  have hl : lv_has ls 3 [(0, .ref (G.ad 0)), (1, .int (nI T)), (2, .int (oI o))] := hl
  have h8 := hB.f.1
  have h10 := hB.f.2.1
  have h9 := hB.f.2.2.1
  have h13 := hB.f.2.2.2.1
  have h14 := hB.f.2.2.2.2.1
  have hm5 := hk.2.1
  have hm1 := hk.1
  have hC := hk.2.2.2.1
  have hR40 := hk.2.2.2.2.2.2.1
  refine lv_iload_n hE.1 hE.2.1 dX11_told0_0 rfl (lv_at hl 2 rfl) ?_
  refine lv_iconst (v := -1) hE.1 hE.2.1 dX11_told0_1 (by decide) ?_
  refine lv_icmp_ne (tgt := 9) hE.1 hE.2.1 dX11_told0_2 (by decide) (fun c2 => ?_) (fun c2 => ?_)
  · obtain ⟨r, hr⟩ : ∃ r, o = some r := by
      cases o with
      | none => exact absurd rfl c2
      | some r => exact ⟨r, rfl⟩
    subst hr
    have hrl := ho r rfl
    have hl : lv_has ls 3 [(0, .ref (G.ad 0)), (1, .int (nI T)), (2, .int (nI r))] := hl
    refine lv_aload_n hE.1 hE.2.1 dX11_told0_9 rfl (lv_at hl 0 rfl) ?_
    refine rm_getr hE hH hG fl_X11_38 rfl (by decide) dX11_told0_10 ?_
    refine lv_bipush (v := nI 40) hE.1 hE.2.1 dX11_told0_13 (by decide) ?_
    refine lv_iload_n hE.1 hE.2.1 dX11_told0_15 rfl (lv_at hl 1 rfl) ?_
    refine rn_imul hE dX11_told0_16 ?_
    refine lv_iload_n hE.1 hE.2.1 dX11_told0_17 rfl (lv_at hl 2 rfl) ?_
    refine rn_iadd hE dX11_told0_18 ?_
    refine rm_iald hE hH hG (k := 14) (by decide) rfl (N := 240) rfl (n := 40 * T + r) (by omega) (v := nI (tvv tab r)) (h14 r (by omega)) dX11_told0_19 ?_
    exact rg_iret hE hr rfl hlk hH ⟨rfl, rfl, rfl, rfl⟩ dX11_told0_20
  · rw [oI_m1 (fun k hk2 => by have := ho k hk2; omega)] at c2
    subst c2
    refine lv_iconst (v := -1) hE.1 hE.2.1 dX11_told0_5 (by decide) ?_
    refine lv_goto (tgt := 20) hE.1 hE.2.1 dX11_told0_6 (by decide) ?_
    exact rg_iret hE hr rfl hlk hH ⟨rfl, rfl, rfl, rfl⟩ dX11_told0_20
