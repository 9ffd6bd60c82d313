set_option maxRecDepth 100000 in
set_option maxHeartbeats 4000000 in
theorem c_Co_init (l : Launch) (z : ZK) (G : GW) (iv : IV) (jv : JV) (c : Nat) (wc : c ∈ G.L ∧ G.kd c = 0) (f1 : c + 1 ∉ G.L) (k1 : G.kd (c + 1) = 14) : cV l z yX0_init cX0_init 1 none 1 20 1 6 [.ref (G.ad c)] G iv jv (fun G' iv' jv' => EX G G' c (c + 2) ∧ isCo G' c ∧ iv' c 1 = nI 0 ∧ Fr iv iv' (fun lb _ => c ≤ lb ∧ lb < c + 2) ∧ FrJ jv jv' (fun lb _ => c ≤ lb ∧ lb < c + 2)) := by
  intro sz
  refine rg_entry rfl (Nat.le_of_ble_eq_true rfl) ?_
  intro pq eq sq mq bq methq cq ls hE hr hlk hml hnm hl hsz hH
  have hl : lv_has ls 1 [(0, .ref (G.ad c))] := hl
  have hEX : EX G G c (c + 2) := EX.rf
  have hFr : Fr iv iv (fun lb _ => c ≤ lb ∧ lb < c + 2) := Fr.rf
  have hFj : FrJ jv jv (fun lb _ => c ≤ lb ∧ lb < c + 2) := FrJ.rf
  refine lv_aload_n hE.1 hE.2.1 dX0_init_0 rfl (lv_at hl 0 rfl) ?_
  refine rg_obj (rest := []) hE ⟨(b1 98 rfl rfl), (b1 30 rfl rfl), (b1 31 rfl rfl)⟩ hml hl.1 rfl dX0_init_1 (Nat.le_of_ble_eq_true rfl) (Nat.le_of_ble_eq_true rfl) ?_
  refine lv_aload_n hE.1 hE.2.1 dX0_init_4 rfl (lv_at hl 0 rfl) ?_
  refine lv_lconst (v := 0) hE.1 hE.2.1 dX0_init_5 (by decide) ?_
  refine rg_putj hE hH cf_X0 fl_X0_9 rfl fn_X0_0 (wc.1) (wc.2) (v := 0) dX0_init_6 (fun H locs hH => ?_)
  have hU6_1 : Fr iv iv (fun b j => b = c ∧ j = 0) := Fr.rf
  have hJ6_1 : FrJ jv (up2 jv c 0 0) (fun b j => b = c ∧ j = 0) := FrJ.up FrJ.rf ⟨rfl, rfl⟩
  have hFr := hFr.tr (hU6_1.mono (P' := fun lb _ => c ≤ lb ∧ lb < c + 2) (fun lb j h => by omega))
  have hFj := hFj.tr (hJ6_1.mono (P' := fun lb _ => c ≤ lb ∧ lb < c + 2) (fun lb j h => by omega))
  generalize up2 jv c 0 0 = jv6_1 at hH hFj hJ6_1 
  refine lv_aload_n hE.1 hE.2.1 dX0_init_9 rfl (lv_at hl 0 rfl) ?_
  refine lv_iconst (v := nI 0) hE.1 hE.2.1 dX0_init_10 (by decide) ?_
  refine rg_puti hE hH cf_X0 fl_X0_15 rfl fn_X0_1 (wc.1) (wc.2) (v := nI 0) dX0_init_11 (fun H locs hH => ?_)
  have hU11_2 : Fr iv (up2 iv c 1 (nI 0)) (fun b j => b = c ∧ j = 1) := Fr.up Fr.rf ⟨rfl, rfl⟩
  have hJ11_2 : FrJ jv6_1 jv6_1 (fun b j => b = c ∧ j = 1) := FrJ.rf
  have hFr := hFr.tr (hU11_2.mono (P' := fun lb _ => c ≤ lb ∧ lb < c + 2) (fun lb j h => by omega))
  have hFj := hFj.tr (hJ11_2.mono (P' := fun lb _ => c ≤ lb ∧ lb < c + 2) (fun lb j h => by omega))
  have ic_1 : (up2 iv c 1 (nI 0)) (c) 1 = nI 0 := up2_s
  generalize up2 iv c 1 (nI 0) = iv11_2 at hH hFr hU11_2 ic_1
  refine lv_aload_n hE.1 hE.2.1 dX0_init_14 rfl (lv_at hl 0 rfl) ?_
  refine lv_bipush (v := nI 6) hE.1 hE.2.1 dX0_init_15 (by decide) ?_
  refine rg_newJ hE hH (c + 1) f1 k1 (by omega) (by show 0 + 1 ≤ 1; omega) (by show 0 + 6 ≤ 6; omega) dX0_init_17 (fun G17_3 H hX17_3 hln17_3 hrv17_3 hH => ?_)
  have hS17_3 := hX17_3.ex1 f1
  have wc_1 : isA G17_3 (c + 1) 14 6 := ⟨hX17_3.new (List.mem_singleton_self _), hX17_3.kd k1, hln17_3⟩
  have hl : lv_has ls 1 [(0, .ref (G17_3.ad c))] := by rw [hS17_3.adm (wc.1)]; exact hl
  refine rg_st (st' := [.ref (G17_3.ad (c + 1)), .ref (G17_3.ad c)]) (by rw [hS17_3.adm (wc.1)]) ?_
  have wc := And.intro (hS17_3.mem wc.1) (hS17_3.kd wc.2)
  have k1 : G17_3.kd (c + 1) = 14 := by rw [EX_kd hS17_3]; exact k1
  have hEX := hEX.tr (hS17_3.mono (c := c) (d := c + 2) (by omega) (by omega))
  have hU17_3 : Fr iv11_2 (clr iv11_2 (c + 1) 0) (fun b _ => b = c + 1) := Fr.clr Fr.rf (fun _ => rfl)
  have hJ17_3 : FrJ jv6_1 (clr jv6_1 (c + 1) 0) (fun b _ => b = c + 1) := FrJ.clr FrJ.rf (fun _ => rfl)
  have ic_1 := (hU17_3 _ _ (by omega)).trans ic_1
  have hFr := hFr.tr (hU17_3.mono (P' := fun lb _ => c ≤ lb ∧ lb < c + 2) (fun lb j h => by omega))
  have hFj := hFj.tr (hJ17_3.mono (P' := fun lb _ => c ≤ lb ∧ lb < c + 2) (fun lb j h => by omega))
  generalize clr iv11_2 (c + 1) 0 = iv17_3 at hH hFr hU17_3 ic_1
  generalize clr jv6_1 (c + 1) 0 = jv17_3 at hH hFj hJ17_3 
  refine rg_putrF hE hH cf_X0 fl_X0_19 rfl fn_X0_2 fo_X0_2 hnm (wc.1) (wc.2) (v := c + 1) (wc_1.1) dX0_init_19 (fun H locs hH => ?_)
  have hX19_4 := GX.set (G := G17_3) (lb := c) (k := 2) (v := some (c + 1))
  have hS19_4 := EX.set (G := G17_3) (lb := c) (k := 2) (v := some (c + 1))
  have qc_2 := setR_s (G := G17_3) (lb := c) (k := 2) (v := some (c + 1))
  generalize (G17_3.setR (up2 G17_3.rv c 2 (some (c + 1)))) = G19_4 at hH hX19_4 hS19_4 qc_2
  have hl : lv_has ls 1 [(0, .ref (G19_4.ad c))] := by rw [hS19_4.adm (wc.1)]; exact hl
  have wc := And.intro (hS19_4.mem wc.1) (hS19_4.kd wc.2)
  have k1 : G19_4.kd (c + 1) = 14 := by rw [EX_kd hS19_4]; exact k1
  have wc_1 := wc_1.em hS19_4
  have hEX := hEX.tr (hS19_4.mono (c := c) (d := c + 2) (by omega) (by omega))
  refine W.widen (k := 1) (n := 6) (by omega) (by omega) ?_
  exact rg_vret hE hr hlk hH ⟨hEX, ⟨wc, wc_1, qc_2⟩, ic_1, hFr, hFj⟩ dX0_init_22
