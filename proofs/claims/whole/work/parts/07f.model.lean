set_option maxRecDepth 100000 in
set_option maxHeartbeats 4000000 in
theorem c_Tb_init (l : Launch) (z : ZK) (G : GW) (iv : IV) (jv : JV) (b : Nat) (tab : Tab) (hk : tabOK tab) (hL : isLa G b) (hLy : LAY iv jv b tab) (t : Nat) (wt : t ∈ G.L ∧ G.kd t = 7) (hfr : ∀ x, t + 1 ≤ x → x < t + 40 → x ∉ G.L) (hkd : ∀ i, i < 44 → G.kd (t + i) = kTb i) (hbt : b + 40 ≤ t) (hz : ∀ j, iv t j = 0) : cV l z yX7_init cX7_init 3 none 2 45 30 81000 [.ref (G.ad t), .ref (G.ad b)] G iv jv (fun G' iv' jv' => EX G G' t (t + 40) ∧ isTb G' t b (tm tab) (tC tab) (tR tab) (tT tab) ∧ iv' t 1 = nI (tC tab) ∧ (iv' t 7 = nI 0 ∧ iv' t 10 = nI 0 ∧ iv' t 12 = nI 0 ∧ iv' t 16 = nI 0) ∧ (∀ i, i < tm tab → iv' (t + 20 + 1) i = nI (tf tab i) ∧ iv' (t + 20 + 2) i = nI (st (g1 tab) (tm tab) i)) ∧ iv' (t + 20) 2 = nI (tT tab) ∧ (∀ j, iv' (t + 20 + 10) j = 0) ∧ Fr iv iv' (fun lb _ => t ≤ lb ∧ lb < t + 40) ∧ FrJ jv jv' (fun lb _ => t ≤ lb ∧ lb < t + 40)) := by
  intro sz
  refine rg_entry rfl (Nat.le_of_ble_eq_true rfl) ?_
  intro pq eq sq mq bq methq cq ls hE hr hlk hml hnm hl hsz hH
  have hl : lv_has ls 3 [(0, .ref (G.ad t)), (1, .ref (G.ad b))] := hl
  have hm5 := hk.2.1
  have hm1 := hk.1
  have hC4 := hk.2.2.2.1
  have hR40 := hk.2.2.2.2.2.2.1
  have hT8 := tT_le hk
  have hmC := Nat.mul_le_mul hm5 hC4
  have hrr := (tri1 _ hR40).2
  have hfa : ∀ x, t + 1 ≤ x → x < t + 17 → x ∉ G.L := fun x h1 h2 => hfr x h1 (by omega)
  have f17 := hfr (t + 17) (by omega) (by omega)
  have f20 := hfr (t + 20) (by omega) (by omega)
  have hfu : ∀ x, t + 21 ≤ x → x < t + 40 → x ∉ G.L := fun x h1 h2 => hfr x (by omega) h2
  have zt7 : iv t 7 = nI 0 := hz 7
  have zt10 : iv t 10 = nI 0 := hz 10
  have zt12 : iv t 12 = nI 0 := hz 12
  have zt16 : iv t 16 = nI 0 := hz 16
  have hEX : EX G G t (t + 40) := EX.rf
  have hFr : Fr iv iv (fun lb _ => t ≤ lb ∧ lb < t + 40) := Fr.rf
  have hFj : FrJ jv jv (fun lb _ => t ≤ lb ∧ lb < t + 40) := FrJ.rf
  refine lv_aload_n hE.1 hE.2.1 dX7_init_0 rfl (lv_at hl 0 rfl) ?_
  refine rg_obj (rest := []) hE ⟨(b3 27 rfl rfl), (b1 30 rfl rfl), (b1 31 rfl rfl)⟩ hml hl.1 rfl dX7_init_1 (Nat.le_of_ble_eq_true rfl) (Nat.le_of_ble_eq_true rfl) ?_
  refine lv_aload_n hE.1 hE.2.1 dX7_init_4 rfl (lv_at hl 0 rfl) ?_
  refine lv_aload_n hE.1 hE.2.1 dX7_init_5 rfl (lv_at hl 1 rfl) ?_
  refine rg_putrF hE hH cf_X7 fl_X7_9 rfl fn_X7_0 fo_X7_0 hnm (wt.1) (wt.2) (v := b) (hL.1.1) dX7_init_6 (fun H locs hH => ?_)
  have hX6_1 := GX.set (G := G) (lb := t) (k := 0) (v := some (b))
  have hS6_1 := EX.set (G := G) (lb := t) (k := 0) (v := some (b))
  have qt_0 := setR_s (G := G) (lb := t) (k := 0) (v := some (b))
  generalize (G.setR (up2 G.rv t 0 (some b))) = G6_1 at hH hX6_1 hS6_1 qt_0
  have hl : lv_has ls 3 [(0, .ref (G6_1.ad t)), (1, .ref (G6_1.ad b))] := by rw [hS6_1.adm (wt.1), hS6_1.adm (hL.1.1)]; exact hl
  have hL := hL.e hS6_1 (by omega)
  have wt := And.intro (hS6_1.mem wt.1) (hS6_1.kd wt.2)
  have hfa : ∀ x, t + 1 ≤ x → x < t + 17 → x ∉ G6_1.L := fun x h1 h2 => hS6_1.nin (hfa x (Nat.le_trans (dle t (a := 1) (c := 1) (by decide)) h1) h2) (Or.inr (Nat.le_trans (dle t (a := 1) (c := 1) (by decide)) h1))
  have f17 := hS6_1.nin f17 (Or.inr (dle t (a := 1) (c := 17) (by decide)))
  have f20 := hS6_1.nin f20 (Or.inr (dle t (a := 1) (c := 20) (by decide)))
  have hfu : ∀ x, t + 21 ≤ x → x < t + 40 → x ∉ G6_1.L := fun x h1 h2 => hS6_1.nin (hfu x (Nat.le_trans (dle t (a := 21) (c := 21) (by decide)) h1) h2) (Or.inr (Nat.le_trans (dle t (a := 1) (c := 21) (by decide)) h1))
  have hkd : ∀ i, i < 44 → G6_1.kd (t + i) = kTb i := by rw [EX_kd hS6_1]; exact hkd
  have hEX := hEX.tr (hS6_1.mono (c := t) (d := t + 40) (dle t (a := 0) (c := 0) (by decide)) (dle t (a := 1) (c := 40) (by decide)))
  refine lv_aload_n hE.1 hE.2.1 dX7_init_9 rfl (lv_at hl 0 rfl) ?_
  refine lv_aload_n hE.1 hE.2.1 dX7_init_10 rfl (lv_at hl 1 rfl) ?_
  refine rg_geti hE hH cf_X1 fl_X7_15 rfl (hL.1.1) (hL.1.2) (v := nI (tC tab)) (hLy.cc) dX7_init_11 ?_
  refine rg_putiF hE hH cf_X7 fl_X7_21 rfl fn_X7_1 fo_X7_1 hnm (wt.1) (wt.2) (v := nI (tC tab)) dX7_init_14 (fun H locs hH => ?_)
  have hU14_2 : Fr iv (up2 iv t 1 (nI (tC tab))) (fun b0 j => b0 = t ∧ j = 1) := Fr.up Fr.rf ⟨rfl, rfl⟩
  have hJ14_2 : FrJ jv jv (fun b0 j => b0 = t ∧ j = 1) := FrJ.rf
  have hLy := hLy.fr2 hU14_2 hJ14_2 (fun lb j _ _ => by omega) (fun lb j _ _ => by omega)
  have zt7 := (hU14_2 _ _ (fun h => absurd h.2 (by decide))).trans zt7
  have zt10 := (hU14_2 _ _ (fun h => absurd h.2 (by decide))).trans zt10
  have zt12 := (hU14_2 _ _ (fun h => absurd h.2 (by decide))).trans zt12
  have zt16 := (hU14_2 _ _ (fun h => absurd h.2 (by decide))).trans zt16
  have hFr := hFr.tr (hU14_2.mono (P' := fun lb _ => t ≤ lb ∧ lb < t + 40) (fun lb j h => by rw [h.1]; exact ⟨dle t (a := 0) (c := 0) (by decide), dl t (a := 0) (c := 40) (by decide)⟩))
  have hFj := hFj.tr (hJ14_2.mono (P' := fun lb _ => t ≤ lb ∧ lb < t + 40) (fun lb j h => by rw [h.1]; exact ⟨dle t (a := 0) (c := 0) (by decide), dl t (a := 0) (c := 40) (by decide)⟩))
  have it_1 : (up2 iv t 1 (nI (tC tab))) (t) 1 = nI (tC tab) := up2_s
  generalize up2 iv t 1 (nI (tC tab)) = iv14_2 at hH hFr hU14_2 hLy zt7 zt10 zt12 zt16 it_1
  refine lv_aload_n hE.1 hE.2.1 dX7_init_17 rfl (lv_at hl 0 rfl) ?_
  refine lv_aload_n hE.1 hE.2.1 dX7_init_18 rfl (lv_at hl 1 rfl) ?_
  refine rg_geti hE hH cf_X1 fl_X7_22 rfl (hL.1.1) (hL.1.2) (v := nI (tm tab)) (hLy.1.1) dX7_init_19 ?_
  refine lv_aload_n hE.1 hE.2.1 dX7_init_22 rfl (lv_at hl 0 rfl) ?_
  refine rg_geti hE hH cf_X7 fl_X7_21 rfl (wt.1) (wt.2) (v := nI (tC tab)) (it_1) dX7_init_23 ?_
  have hk1_26_3 : ∀ i, i < tm tab → G6_1.kd (t + 2 + i) = 13 := (fun (i : Nat) (hi : i < tm tab) => by rw [Nat.add_assoc]; exact (hkd (2 + i) (by omega)).trans (kTb_2 (by omega)))
  refine rg_newM hE hH (t + 1) (t + 2) (hfa (t + 1) (by omega) (by omega)) (fun i hi => hfa (t + 2 + i) (by omega) (by omega)) (Or.inl (by omega)) (hkd 1 (by omega)) hk1_26_3 (b3 28 rfl rfl) (by omega) (by omega) (by show 0 + (1 + (tm tab)) ≤ 30; omega) (by show 0 + ((tm tab) + (tm tab) * (tC tab)) ≤ 81000; omega) dX7_init_26 (fun G26_3 H hX26_3 hln26_3 hli26_3 hH => ?_)
  have hS26_3 := hX26_3.exM (hfa (t + 1) (by omega) (by omega)) (fun i hi => hfa (t + 2 + i) (by omega) (by omega)) (by omega)
  have wt_1 : isA G26_3 (t + 1) 19 (tm tab) := ⟨hX26_3.new List.mem_cons_self, hX26_3.kd (hkd 1 (by omega)), hln26_3⟩
  have wt_1I : ∀ i, i < tm tab → isA G26_3 (t + 2 + i) 13 (tC tab) ∧ G26_3.rv (t + 1) i = some (t + 2 + i) := fun i hi => ⟨⟨hX26_3.new ((mem_inn (n := t + 1) (n1 := t + 2) (N := tm tab) (b := t + 2 + i)).mpr (Or.inr ⟨by omega, by omega⟩)), hX26_3.kd (hk1_26_3 i hi), (hli26_3 i hi).1⟩, (hli26_3 i hi).2⟩
  have hl : lv_has ls 3 [(0, .ref (G26_3.ad t)), (1, .ref (G26_3.ad b))] := by rw [hS26_3.adm (wt.1), hS26_3.adm (hL.1.1)]; exact hl
  refine rg_st (st' := [.ref (G26_3.ad (t + 1)), .ref (G26_3.ad t)]) (by rw [hS26_3.adm (wt.1)]) ?_
  have hL := hL.e hS26_3 (by omega)
  have wt := And.intro (hS26_3.mem wt.1) (hS26_3.kd wt.2)
  have hfa : ∀ x, t + 7 ≤ x → x < t + 17 → x ∉ G26_3.L := fun x h1 h2 => hS26_3.nin (hfa x (by omega) h2) (by omega)
  have f17 := hS26_3.nin f17 (by omega)
  have f20 := hS26_3.nin f20 (by omega)
  have hfu : ∀ x, t + 21 ≤ x → x < t + 40 → x ∉ G26_3.L := fun x h1 h2 => hS26_3.nin (hfu x (by omega) h2) (by omega)
  have hkd : ∀ i, i < 44 → G26_3.kd (t + i) = kTb i := by rw [EX_kd hS26_3]; exact hkd
  have qt_0 := hS26_3.rv (by omega) qt_0
  have hEX := hEX.tr (hS26_3.mono (c := t) (d := t + 40) (by omega) (by omega))
  have hU26_3 : Fr iv14_2 (clrs iv14_2 (t + 2) (tm tab) (t + 1) 0) (fun b0 _ => b0 = t + 1 ∨ (t + 2 ≤ b0 ∧ b0 < t + 2 + (tm tab))) := Fr.clrs Fr.rf (fun b0 j h => h)
  have hJ26_3 : FrJ jv (clrs jv (t + 2) (tm tab) (t + 1) 0) (fun b0 _ => b0 = t + 1 ∨ (t + 2 ≤ b0 ∧ b0 < t + 2 + (tm tab))) := FrJ.clrs FrJ.rf (fun b0 j h => h)
  have hLy := hLy.fr2 hU26_3 hJ26_3 (fun lb j _ _ => by omega) (fun lb j _ _ => by omega)
  have zt7 := (hU26_3 _ _ (by omega)).trans zt7
  have zt10 := (hU26_3 _ _ (by omega)).trans zt10
  have zt12 := (hU26_3 _ _ (by omega)).trans zt12
  have zt16 := (hU26_3 _ _ (by omega)).trans zt16
  have it_1 := (hU26_3 _ _ (by omega)).trans it_1
  have hFr := hFr.tr (hU26_3.mono (P' := fun lb _ => t ≤ lb ∧ lb < t + 40) (fun lb j h => by omega))
  have hFj := hFj.tr (hJ26_3.mono (P' := fun lb _ => t ≤ lb ∧ lb < t + 40) (fun lb j h => by omega))
  generalize clrs iv14_2 (t + 2) (tm tab) (t + 1) 0 = iv26_3 at hH hFr hU26_3 hLy zt7 zt10 zt12 zt16 it_1
  generalize clrs jv (t + 2) (tm tab) (t + 1) 0 = jv26_3 at hH hFj hJ26_3 hLy
  refine rg_putrF hE hH cf_X7 fl_X7_27 rfl fn_X7_2 fo_X7_2 hnm (wt.1) (wt.2) (v := t + 1) (wt_1.1) dX7_init_30 (fun H locs hH => ?_)
  have hX30_4 := GX.set (G := G26_3) (lb := t) (k := 2) (v := some (t + 1))
  have hS30_4 := EX.set (G := G26_3) (lb := t) (k := 2) (v := some (t + 1))
  have qt_2 := setR_s (G := G26_3) (lb := t) (k := 2) (v := some (t + 1))
  generalize (G26_3.setR (up2 G26_3.rv t 2 (some (t + 1)))) = G30_4 at hH hX30_4 hS30_4 qt_2
  have hl : lv_has ls 3 [(0, .ref (G30_4.ad t)), (1, .ref (G30_4.ad b))] := by rw [hS30_4.adm (wt.1), hS30_4.adm (hL.1.1)]; exact hl
  have hL := hL.e hS30_4 (by omega)
  have wt := And.intro (hS30_4.mem wt.1) (hS30_4.kd wt.2)
  have hfa : ∀ x, t + 7 ≤ x → x < t + 17 → x ∉ G30_4.L := fun x h1 h2 => hS30_4.nin (hfa x (Nat.le_trans (dle t (a := 7) (c := 7) (by decide)) h1) h2) (Or.inr (Nat.le_trans (dle t (a := 1) (c := 7) (by decide)) h1))
  have f17 := hS30_4.nin f17 (Or.inr (dle t (a := 1) (c := 17) (by decide)))
  have f20 := hS30_4.nin f20 (Or.inr (dle t (a := 1) (c := 20) (by decide)))
  have hfu : ∀ x, t + 21 ≤ x → x < t + 40 → x ∉ G30_4.L := fun x h1 h2 => hS30_4.nin (hfu x (Nat.le_trans (dle t (a := 21) (c := 21) (by decide)) h1) h2) (Or.inr (Nat.le_trans (dle t (a := 1) (c := 21) (by decide)) h1))
  have hkd : ∀ i, i < 44 → G30_4.kd (t + i) = kTb i := by rw [EX_kd hS30_4]; exact hkd
  have qt_0 := hX30_4.rv List.not_mem_nil (fun h => absurd h.2 (by decide)) qt_0
  have wt_1 := wt_1.em hS30_4
  have wt_1I := (fun i hi => ⟨(wt_1I i hi).1.em hS30_4, hS30_4.rv (by omega) (wt_1I i hi).2⟩ : ∀ i, i < tm tab → isA _ (t + 2 + i) 13 (tC tab) ∧ GW.rv _ (t + 1) i = some (t + 2 + i))
  have hEX := hEX.tr (hS30_4.mono (c := t) (d := t + 40) (dle t (a := 0) (c := 0) (by decide)) (dle t (a := 1) (c := 40) (by decide)))
  refine lv_aload_n hE.1 hE.2.1 dX7_init_33 rfl (lv_at hl 0 rfl) ?_
  refine lv_aload_n hE.1 hE.2.1 dX7_init_34 rfl (lv_at hl 0 rfl) ?_
  refine rg_geti hE hH cf_X7 fl_X7_21 rfl (wt.1) (wt.2) (v := nI (tC tab)) (it_1) dX7_init_35 ?_
  refine rg_newI (ty := .int) rfl hE hH (t + 10) (hfa (t + 10) (by omega) (by omega)) (hkd 10 (by omega)) (Or.inr (Or.inl ⟨rfl, rfl⟩)) (by omega) (by show 0 + 1 + (tm tab) + 1 ≤ 30; omega) (by show 0 + (tm tab) + (tm tab) * (tC tab) + (tC tab) ≤ 81000; omega) dX7_init_38 (fun G38_5 H hX38_5 hln38_5 hrv38_5 hH => ?_)
  have hS38_5 := hX38_5.ex1 (hfa (t + 10) (by omega) (by omega))
  have wt_10 : isA G38_5 (t + 10) 13 (tC tab) := ⟨hX38_5.new (List.mem_singleton_self _), hX38_5.kd (hkd 10 (by omega)), hln38_5⟩
  have hl : lv_has ls 3 [(0, .ref (G38_5.ad t)), (1, .ref (G38_5.ad b))] := by rw [hS38_5.adm (wt.1), hS38_5.adm (hL.1.1)]; exact hl
  refine rg_st (st' := [.ref (G38_5.ad (t + 10)), .ref (G38_5.ad t)]) (by rw [hS38_5.adm (wt.1)]) ?_
  have hL := hL.e hS38_5 (by omega)
  have wt := And.intro (hS38_5.mem wt.1) (hS38_5.kd wt.2)
  have hfa : ∀ x, t + 11 ≤ x → x < t + 17 → x ∉ G38_5.L := fun x h1 h2 => hS38_5.nin (hfa x (Nat.le_trans (dle t (a := 7) (c := 11) (by decide)) h1) h2) (Or.inr (Nat.le_trans (dle t (a := 11) (c := 11) (by decide)) h1))
  have f17 := hS38_5.nin f17 (Or.inr (dle t (a := 11) (c := 17) (by decide)))
  have f20 := hS38_5.nin f20 (Or.inr (dle t (a := 11) (c := 20) (by decide)))
  have hfu : ∀ x, t + 21 ≤ x → x < t + 40 → x ∉ G38_5.L := fun x h1 h2 => hS38_5.nin (hfu x (Nat.le_trans (dle t (a := 21) (c := 21) (by decide)) h1) h2) (Or.inr (Nat.le_trans (dle t (a := 11) (c := 21) (by decide)) h1))
  have hkd : ∀ i, i < 44 → G38_5.kd (t + i) = kTb i := by rw [EX_kd hS38_5]; exact hkd
  have qt_0 := hS38_5.rv (Or.inl (dl t (a := 0) (c := 10) (by decide))) qt_0
  have wt_1 := wt_1.em hS38_5
  have wt_1I := (fun i hi => ⟨(wt_1I i hi).1.em hS38_5, hS38_5.rv (by omega) (wt_1I i hi).2⟩ : ∀ i, i < tm tab → isA _ (t + 2 + i) 13 (tC tab) ∧ GW.rv _ (t + 1) i = some (t + 2 + i))
  have qt_2 := hS38_5.rv (Or.inl (dl t (a := 0) (c := 10) (by decide))) qt_2
  have hEX := hEX.tr (hS38_5.mono (c := t) (d := t + 40) (dle t (a := 0) (c := 10) (by decide)) (dle t (a := 11) (c := 40) (by decide)))
  have hU38_5 : Fr iv26_3 (clr iv26_3 (t + 10) 0) (fun b0 _ => b0 = t + 10) := Fr.clr Fr.rf (fun _ => rfl)
  have hJ38_5 : FrJ jv26_3 (clr jv26_3 (t + 10) 0) (fun b0 _ => b0 = t + 10) := FrJ.clr FrJ.rf (fun _ => rfl)
  have hLy := hLy.fr2 hU38_5 hJ38_5 (fun lb j _ _ => by omega) (fun lb j _ _ => by omega)
  have zt7 := (hU38_5 _ _ (dn t (a := 0) (c := 10) (by decide))).trans zt7
  have zt10 := (hU38_5 _ _ (dn t (a := 0) (c := 10) (by decide))).trans zt10
  have zt12 := (hU38_5 _ _ (dn t (a := 0) (c := 10) (by decide))).trans zt12
  have zt16 := (hU38_5 _ _ (dn t (a := 0) (c := 10) (by decide))).trans zt16
  have it_1 := (hU38_5 _ _ (dn t (a := 0) (c := 10) (by decide))).trans it_1
  have hFr := hFr.tr (hU38_5.mono (P' := fun lb _ => t ≤ lb ∧ lb < t + 40) (fun lb j h => by rw [h]; exact ⟨dle t (a := 0) (c := 10) (by decide), dl t (a := 10) (c := 40) (by decide)⟩))
  have hFj := hFj.tr (hJ38_5.mono (P' := fun lb _ => t ≤ lb ∧ lb < t + 40) (fun lb j h => by rw [h]; exact ⟨dle t (a := 0) (c := 10) (by decide), dl t (a := 10) (c := 40) (by decide)⟩))
  generalize clr iv26_3 (t + 10) 0 = iv38_5 at hH hFr hU38_5 hLy zt7 zt10 zt12 zt16 it_1
  generalize clr jv26_3 (t + 10) 0 = jv38_5 at hH hFj hJ38_5 hLy
  refine rg_putrF hE hH cf_X7 fl_X7_30 rfl fn_X7_3 fo_X7_3 hnm (wt.1) (wt.2) (v := t + 10) (wt_10.1) dX7_init_40 (fun H locs hH => ?_)
  have hX40_6 := GX.set (G := G38_5) (lb := t) (k := 3) (v := some (t + 10))
  have hS40_6 := EX.set (G := G38_5) (lb := t) (k := 3) (v := some (t + 10))
  have qt_3 := setR_s (G := G38_5) (lb := t) (k := 3) (v := some (t + 10))
  generalize (G38_5.setR (up2 G38_5.rv t 3 (some (t + 10)))) = G40_6 at hH hX40_6 hS40_6 qt_3
  have hl : lv_has ls 3 [(0, .ref (G40_6.ad t)), (1, .ref (G40_6.ad b))] := by rw [hS40_6.adm (wt.1), hS40_6.adm (hL.1.1)]; exact hl
  have hL := hL.e hS40_6 (by omega)
  have wt := And.intro (hS40_6.mem wt.1) (hS40_6.kd wt.2)
  have hfa : ∀ x, t + 11 ≤ x → x < t + 17 → x ∉ G40_6.L := fun x h1 h2 => hS40_6.nin (hfa x (Nat.le_trans (dle t (a := 11) (c := 11) (by decide)) h1) h2) (Or.inr (Nat.le_trans (dle t (a := 1) (c := 11) (by decide)) h1))
  have f17 := hS40_6.nin f17 (Or.inr (dle t (a := 1) (c := 17) (by decide)))
  have f20 := hS40_6.nin f20 (Or.inr (dle t (a := 1) (c := 20) (by decide)))
  have hfu : ∀ x, t + 21 ≤ x → x < t + 40 → x ∉ G40_6.L := fun x h1 h2 => hS40_6.nin (hfu x (Nat.le_trans (dle t (a := 21) (c := 21) (by decide)) h1) h2) (Or.inr (Nat.le_trans (dle t (a := 1) (c := 21) (by decide)) h1))
  have hkd : ∀ i, i < 44 → G40_6.kd (t + i) = kTb i := by rw [EX_kd hS40_6]; exact hkd
  have qt_0 := hX40_6.rv List.not_mem_nil (fun h => absurd h.2 (by decide)) qt_0
  have wt_1 := wt_1.em hS40_6
  have wt_1I := (fun i hi => ⟨(wt_1I i hi).1.em hS40_6, hS40_6.rv (by omega) (wt_1I i hi).2⟩ : ∀ i, i < tm tab → isA _ (t + 2 + i) 13 (tC tab) ∧ GW.rv _ (t + 1) i = some (t + 2 + i))
  have qt_2 := hX40_6.rv List.not_mem_nil (fun h => absurd h.2 (by decide)) qt_2
  have wt_10 := wt_10.em hS40_6
  have hEX := hEX.tr (hS40_6.mono (c := t) (d := t + 40) (dle t (a := 0) (c := 0) (by decide)) (dle t (a := 1) (c := 40) (by decide)))
  refine lv_aload_n hE.1 hE.2.1 dX7_init_43 rfl (lv_at hl 0 rfl) ?_
  refine lv_aload_n hE.1 hE.2.1 dX7_init_44 rfl (lv_at hl 0 rfl) ?_
  refine rg_geti hE hH cf_X7 fl_X7_21 rfl (wt.1) (wt.2) (v := nI (tC tab)) (it_1) dX7_init_45 ?_
  refine rg_newI (ty := .int) rfl hE hH (t + 11) (hfa (t + 11) (by omega) (by omega)) (hkd 11 (by omega)) (Or.inr (Or.inl ⟨rfl, rfl⟩)) (by omega) (by show 0 + 1 + (tm tab) + 1 + 1 ≤ 30; omega) (by show 0 + (tm tab) + (tm tab) * (tC tab) + (tC tab) + (tC tab) ≤ 81000; omega) dX7_init_48 (fun G48_7 H hX48_7 hln48_7 hrv48_7 hH => ?_)
  have hS48_7 := hX48_7.ex1 (hfa (t + 11) (by omega) (by omega))
  have wt_11 : isA G48_7 (t + 11) 13 (tC tab) := ⟨hX48_7.new (List.mem_singleton_self _), hX48_7.kd (hkd 11 (by omega)), hln48_7⟩
  have hl : lv_has ls 3 [(0, .ref (G48_7.ad t)), (1, .ref (G48_7.ad b))] := by rw [hS48_7.adm (wt.1), hS48_7.adm (hL.1.1)]; exact hl
  refine rg_st (st' := [.ref (G48_7.ad (t + 11)), .ref (G48_7.ad t)]) (by rw [hS48_7.adm (wt.1)]) ?_
  have hL := hL.e hS48_7 (by omega)
  have wt := And.intro (hS48_7.mem wt.1) (hS48_7.kd wt.2)
  have hfa : ∀ x, t + 12 ≤ x → x < t + 17 → x ∉ G48_7.L := fun x h1 h2 => hS48_7.nin (hfa x (Nat.le_trans (dle t (a := 11) (c := 12) (by decide)) h1) h2) (Or.inr (Nat.le_trans (dle t (a := 12) (c := 12) (by decide)) h1))
  have f17 := hS48_7.nin f17 (Or.inr (dle t (a := 12) (c := 17) (by decide)))
  have f20 := hS48_7.nin f20 (Or.inr (dle t (a := 12) (c := 20) (by decide)))
  have hfu : ∀ x, t + 21 ≤ x → x < t + 40 → x ∉ G48_7.L := fun x h1 h2 => hS48_7.nin (hfu x (Nat.le_trans (dle t (a := 21) (c := 21) (by decide)) h1) h2) (Or.inr (Nat.le_trans (dle t (a := 12) (c := 21) (by decide)) h1))
  have hkd : ∀ i, i < 44 → G48_7.kd (t + i) = kTb i := by rw [EX_kd hS48_7]; exact hkd
  have qt_0 := hS48_7.rv (Or.inl (dl t (a := 0) (c := 11) (by decide))) qt_0
  have wt_1 := wt_1.em hS48_7
  have wt_1I := (fun i hi => ⟨(wt_1I i hi).1.em hS48_7, hS48_7.rv (by omega) (wt_1I i hi).2⟩ : ∀ i, i < tm tab → isA _ (t + 2 + i) 13 (tC tab) ∧ GW.rv _ (t + 1) i = some (t + 2 + i))
  have qt_2 := hS48_7.rv (Or.inl (dl t (a := 0) (c := 11) (by decide))) qt_2
  have wt_10 := wt_10.em hS48_7
  have qt_3 := hS48_7.rv (Or.inl (dl t (a := 0) (c := 11) (by decide))) qt_3
  have hEX := hEX.tr (hS48_7.mono (c := t) (d := t + 40) (dle t (a := 0) (c := 11) (by decide)) (dle t (a := 12) (c := 40) (by decide)))
  have hU48_7 : Fr iv38_5 (clr iv38_5 (t + 11) 0) (fun b0 _ => b0 = t + 11) := Fr.clr Fr.rf (fun _ => rfl)
  have hJ48_7 : FrJ jv38_5 (clr jv38_5 (t + 11) 0) (fun b0 _ => b0 = t + 11) := FrJ.clr FrJ.rf (fun _ => rfl)
  have hLy := hLy.fr2 hU48_7 hJ48_7 (fun lb j _ _ => by omega) (fun lb j _ _ => by omega)
  have zt7 := (hU48_7 _ _ (dn t (a := 0) (c := 11) (by decide))).trans zt7
  have zt10 := (hU48_7 _ _ (dn t (a := 0) (c := 11) (by decide))).trans zt10
  have zt12 := (hU48_7 _ _ (dn t (a := 0) (c := 11) (by decide))).trans zt12
  have zt16 := (hU48_7 _ _ (dn t (a := 0) (c := 11) (by decide))).trans zt16
  have it_1 := (hU48_7 _ _ (dn t (a := 0) (c := 11) (by decide))).trans it_1
  have hFr := hFr.tr (hU48_7.mono (P' := fun lb _ => t ≤ lb ∧ lb < t + 40) (fun lb j h => by rw [h]; exact ⟨dle t (a := 0) (c := 11) (by decide), dl t (a := 11) (c := 40) (by decide)⟩))
  have hFj := hFj.tr (hJ48_7.mono (P' := fun lb _ => t ≤ lb ∧ lb < t + 40) (fun lb j h => by rw [h]; exact ⟨dle t (a := 0) (c := 11) (by decide), dl t (a := 11) (c := 40) (by decide)⟩))
  generalize clr iv38_5 (t + 11) 0 = iv48_7 at hH hFr hU48_7 hLy zt7 zt10 zt12 zt16 it_1
  generalize clr jv38_5 (t + 11) 0 = jv48_7 at hH hFj hJ48_7 hLy
  refine rg_putrF hE hH cf_X7 fl_X7_34 rfl fn_X7_4 fo_X7_4 hnm (wt.1) (wt.2) (v := t + 11) (wt_11.1) dX7_init_50 (fun H locs hH => ?_)
  have hX50_8 := GX.set (G := G48_7) (lb := t) (k := 4) (v := some (t + 11))
  have hS50_8 := EX.set (G := G48_7) (lb := t) (k := 4) (v := some (t + 11))
  have qt_4 := setR_s (G := G48_7) (lb := t) (k := 4) (v := some (t + 11))
  generalize (G48_7.setR (up2 G48_7.rv t 4 (some (t + 11)))) = G50_8 at hH hX50_8 hS50_8 qt_4
  have hl : lv_has ls 3 [(0, .ref (G50_8.ad t)), (1, .ref (G50_8.ad b))] := by rw [hS50_8.adm (wt.1), hS50_8.adm (hL.1.1)]; exact hl
  have hL := hL.e hS50_8 (by omega)
  have wt := And.intro (hS50_8.mem wt.1) (hS50_8.kd wt.2)
  have hfa : ∀ x, t + 12 ≤ x → x < t + 17 → x ∉ G50_8.L := fun x h1 h2 => hS50_8.nin (hfa x (Nat.le_trans (dle t (a := 12) (c := 12) (by decide)) h1) h2) (Or.inr (Nat.le_trans (dle t (a := 1) (c := 12) (by decide)) h1))
  have f17 := hS50_8.nin f17 (Or.inr (dle t (a := 1) (c := 17) (by decide)))
  have f20 := hS50_8.nin f20 (Or.inr (dle t (a := 1) (c := 20) (by decide)))
  have hfu : ∀ x, t + 21 ≤ x → x < t + 40 → x ∉ G50_8.L := fun x h1 h2 => hS50_8.nin (hfu x (Nat.le_trans (dle t (a := 21) (c := 21) (by decide)) h1) h2) (Or.inr (Nat.le_trans (dle t (a := 1) (c := 21) (by decide)) h1))
  have hkd : ∀ i, i < 44 → G50_8.kd (t + i) = kTb i := by rw [EX_kd hS50_8]; exact hkd
  have qt_0 := hX50_8.rv List.not_mem_nil (fun h => absurd h.2 (by decide)) qt_0
  have wt_1 := wt_1.em hS50_8
  have wt_1I := (fun i hi => ⟨(wt_1I i hi).1.em hS50_8, hS50_8.rv (by omega) (wt_1I i hi).2⟩ : ∀ i, i < tm tab → isA _ (t + 2 + i) 13 (tC tab) ∧ GW.rv _ (t + 1) i = some (t + 2 + i))
  have qt_2 := hX50_8.rv List.not_mem_nil (fun h => absurd h.2 (by decide)) qt_2
  have wt_10 := wt_10.em hS50_8
  have qt_3 := hX50_8.rv List.not_mem_nil (fun h => absurd h.2 (by decide)) qt_3
  have wt_11 := wt_11.em hS50_8
  have hEX := hEX.tr (hS50_8.mono (c := t) (d := t + 40) (dle t (a := 0) (c := 0) (by decide)) (dle t (a := 1) (c := 40) (by decide)))
  refine lv_aload_n hE.1 hE.2.1 dX7_init_53 rfl (lv_at hl 0 rfl) ?_
  refine lv_aload_n hE.1 hE.2.1 dX7_init_54 rfl (lv_at hl 0 rfl) ?_
  refine rg_geti hE hH cf_X7 fl_X7_21 rfl (wt.1) (wt.2) (v := nI (tC tab)) (it_1) dX7_init_55 ?_
  refine rg_newI (ty := .int) rfl hE hH (t + 12) (hfa (t + 12) (by omega) (by omega)) (hkd 12 (by omega)) (Or.inr (Or.inl ⟨rfl, rfl⟩)) (by omega) (by show 0 + 1 + (tm tab) + 1 + 1 + 1 ≤ 30; omega) (by show 0 + (tm tab) + (tm tab) * (tC tab) + (tC tab) + (tC tab) + (tC tab) ≤ 81000; omega) dX7_init_58 (fun G58_9 H hX58_9 hln58_9 hrv58_9 hH => ?_)
  have hS58_9 := hX58_9.ex1 (hfa (t + 12) (by omega) (by omega))
  have wt_12 : isA G58_9 (t + 12) 13 (tC tab) := ⟨hX58_9.new (List.mem_singleton_self _), hX58_9.kd (hkd 12 (by omega)), hln58_9⟩
  have hl : lv_has ls 3 [(0, .ref (G58_9.ad t)), (1, .ref (G58_9.ad b))] := by rw [hS58_9.adm (wt.1), hS58_9.adm (hL.1.1)]; exact hl
  refine rg_st (st' := [.ref (G58_9.ad (t + 12)), .ref (G58_9.ad t)]) (by rw [hS58_9.adm (wt.1)]) ?_
  have hL := hL.e hS58_9 (by omega)
  have wt := And.intro (hS58_9.mem wt.1) (hS58_9.kd wt.2)
  have hfa : ∀ x, t + 13 ≤ x → x < t + 17 → x ∉ G58_9.L := fun x h1 h2 => hS58_9.nin (hfa x (Nat.le_trans (dle t (a := 12) (c := 13) (by decide)) h1) h2) (Or.inr (Nat.le_trans (dle t (a := 13) (c := 13) (by decide)) h1))
  have f17 := hS58_9.nin f17 (Or.inr (dle t (a := 13) (c := 17) (by decide)))
  have f20 := hS58_9.nin f20 (Or.inr (dle t (a := 13) (c := 20) (by decide)))
  have hfu : ∀ x, t + 21 ≤ x → x < t + 40 → x ∉ G58_9.L := fun x h1 h2 => hS58_9.nin (hfu x (Nat.le_trans (dle t (a := 21) (c := 21) (by decide)) h1) h2) (Or.inr (Nat.le_trans (dle t (a := 13) (c := 21) (by decide)) h1))
  have hkd : ∀ i, i < 44 → G58_9.kd (t + i) = kTb i := by rw [EX_kd hS58_9]; exact hkd
  have qt_0 := hS58_9.rv (Or.inl (dl t (a := 0) (c := 12) (by decide))) qt_0
  have wt_1 := wt_1.em hS58_9
  have wt_1I := (fun i hi => ⟨(wt_1I i hi).1.em hS58_9, hS58_9.rv (by omega) (wt_1I i hi).2⟩ : ∀ i, i < tm tab → isA _ (t + 2 + i) 13 (tC tab) ∧ GW.rv _ (t + 1) i = some (t + 2 + i))
  have qt_2 := hS58_9.rv (Or.inl (dl t (a := 0) (c := 12) (by decide))) qt_2
  have wt_10 := wt_10.em hS58_9
  have qt_3 := hS58_9.rv (Or.inl (dl t (a := 0) (c := 12) (by decide))) qt_3
  have wt_11 := wt_11.em hS58_9
  have qt_4 := hS58_9.rv (Or.inl (dl t (a := 0) (c := 12) (by decide))) qt_4
  have hEX := hEX.tr (hS58_9.mono (c := t) (d := t + 40) (dle t (a := 0) (c := 12) (by decide)) (dle t (a := 13) (c := 40) (by decide)))
  have hU58_9 : Fr iv48_7 (clr iv48_7 (t + 12) 0) (fun b0 _ => b0 = t + 12) := Fr.clr Fr.rf (fun _ => rfl)
  have hJ58_9 : FrJ jv48_7 (clr jv48_7 (t + 12) 0) (fun b0 _ => b0 = t + 12) := FrJ.clr FrJ.rf (fun _ => rfl)
  have hLy := hLy.fr2 hU58_9 hJ58_9 (fun lb j _ _ => by omega) (fun lb j _ _ => by omega)
  have zt7 := (hU58_9 _ _ (dn t (a := 0) (c := 12) (by decide))).trans zt7
  have zt10 := (hU58_9 _ _ (dn t (a := 0) (c := 12) (by decide))).trans zt10
  have zt12 := (hU58_9 _ _ (dn t (a := 0) (c := 12) (by decide))).trans zt12
  have zt16 := (hU58_9 _ _ (dn t (a := 0) (c := 12) (by decide))).trans zt16
  have it_1 := (hU58_9 _ _ (dn t (a := 0) (c := 12) (by decide))).trans it_1
  have hFr := hFr.tr (hU58_9.mono (P' := fun lb _ => t ≤ lb ∧ lb < t + 40) (fun lb j h => by rw [h]; exact ⟨dle t (a := 0) (c := 12) (by decide), dl t (a := 12) (c := 40) (by decide)⟩))
  have hFj := hFj.tr (hJ58_9.mono (P' := fun lb _ => t ≤ lb ∧ lb < t + 40) (fun lb j h => by rw [h]; exact ⟨dle t (a := 0) (c := 12) (by decide), dl t (a := 12) (c := 40) (by decide)⟩))
  generalize clr iv48_7 (t + 12) 0 = iv58_9 at hH hFr hU58_9 hLy zt7 zt10 zt12 zt16 it_1
  generalize clr jv48_7 (t + 12) 0 = jv58_9 at hH hFj hJ58_9 hLy
  refine rg_putrF hE hH cf_X7 fl_X7_37 rfl fn_X7_5 fo_X7_5 hnm (wt.1) (wt.2) (v := t + 12) (wt_12.1) dX7_init_60 (fun H locs hH => ?_)
  have hX60_10 := GX.set (G := G58_9) (lb := t) (k := 5) (v := some (t + 12))
  have hS60_10 := EX.set (G := G58_9) (lb := t) (k := 5) (v := some (t + 12))
  have qt_5 := setR_s (G := G58_9) (lb := t) (k := 5) (v := some (t + 12))
  generalize (G58_9.setR (up2 G58_9.rv t 5 (some (t + 12)))) = G60_10 at hH hX60_10 hS60_10 qt_5
  have hl : lv_has ls 3 [(0, .ref (G60_10.ad t)), (1, .ref (G60_10.ad b))] := by rw [hS60_10.adm (wt.1), hS60_10.adm (hL.1.1)]; exact hl
  have hL := hL.e hS60_10 (by omega)
  have wt := And.intro (hS60_10.mem wt.1) (hS60_10.kd wt.2)
  have hfa : ∀ x, t + 13 ≤ x → x < t + 17 → x ∉ G60_10.L := fun x h1 h2 => hS60_10.nin (hfa x (Nat.le_trans (dle t (a := 13) (c := 13) (by decide)) h1) h2) (Or.inr (Nat.le_trans (dle t (a := 1) (c := 13) (by decide)) h1))
  have f17 := hS60_10.nin f17 (Or.inr (dle t (a := 1) (c := 17) (by decide)))
  have f20 := hS60_10.nin f20 (Or.inr (dle t (a := 1) (c := 20) (by decide)))
  have hfu : ∀ x, t + 21 ≤ x → x < t + 40 → x ∉ G60_10.L := fun x h1 h2 => hS60_10.nin (hfu x (Nat.le_trans (dle t (a := 21) (c := 21) (by decide)) h1) h2) (Or.inr (Nat.le_trans (dle t (a := 1) (c := 21) (by decide)) h1))
  have hkd : ∀ i, i < 44 → G60_10.kd (t + i) = kTb i := by rw [EX_kd hS60_10]; exact hkd
  have qt_0 := hX60_10.rv List.not_mem_nil (fun h => absurd h.2 (by decide)) qt_0
  have wt_1 := wt_1.em hS60_10
  have wt_1I := (fun i hi => ⟨(wt_1I i hi).1.em hS60_10, hS60_10.rv (by omega) (wt_1I i hi).2⟩ : ∀ i, i < tm tab → isA _ (t + 2 + i) 13 (tC tab) ∧ GW.rv _ (t + 1) i = some (t + 2 + i))
  have qt_2 := hX60_10.rv List.not_mem_nil (fun h => absurd h.2 (by decide)) qt_2
  have wt_10 := wt_10.em hS60_10
  have qt_3 := hX60_10.rv List.not_mem_nil (fun h => absurd h.2 (by decide)) qt_3
  have wt_11 := wt_11.em hS60_10
  have qt_4 := hX60_10.rv List.not_mem_nil (fun h => absurd h.2 (by decide)) qt_4
  have wt_12 := wt_12.em hS60_10
  have hEX := hEX.tr (hS60_10.mono (c := t) (d := t + 40) (dle t (a := 0) (c := 0) (by decide)) (dle t (a := 1) (c := 40) (by decide)))
  refine lv_aload_n hE.1 hE.2.1 dX7_init_63 rfl (lv_at hl 0 rfl) ?_
  refine lv_aload_n hE.1 hE.2.1 dX7_init_64 rfl (lv_at hl 0 rfl) ?_
  refine rg_geti hE hH cf_X7 fl_X7_21 rfl (wt.1) (wt.2) (v := nI (tC tab)) (it_1) dX7_init_65 ?_
  refine rg_newI (ty := .int) rfl hE hH (t + 13) (hfa (t + 13) (by omega) (by omega)) (hkd 13 (by omega)) (Or.inr (Or.inl ⟨rfl, rfl⟩)) (by omega) (by show 0 + 1 + (tm tab) + 1 + 1 + 1 + 1 ≤ 30; omega) (by show 0 + (tm tab) + (tm tab) * (tC tab) + (tC tab) + (tC tab) + (tC tab) + (tC tab) ≤ 81000; omega) dX7_init_68 (fun G68_11 H hX68_11 hln68_11 hrv68_11 hH => ?_)
  have hS68_11 := hX68_11.ex1 (hfa (t + 13) (by omega) (by omega))
  have wt_13 : isA G68_11 (t + 13) 13 (tC tab) := ⟨hX68_11.new (List.mem_singleton_self _), hX68_11.kd (hkd 13 (by omega)), hln68_11⟩
  have hl : lv_has ls 3 [(0, .ref (G68_11.ad t)), (1, .ref (G68_11.ad b))] := by rw [hS68_11.adm (wt.1), hS68_11.adm (hL.1.1)]; exact hl
  refine rg_st (st' := [.ref (G68_11.ad (t + 13)), .ref (G68_11.ad t)]) (by rw [hS68_11.adm (wt.1)]) ?_
  have hL := hL.e hS68_11 (by omega)
  have wt := And.intro (hS68_11.mem wt.1) (hS68_11.kd wt.2)
  have hfa : ∀ x, t + 14 ≤ x → x < t + 17 → x ∉ G68_11.L := fun x h1 h2 => hS68_11.nin (hfa x (Nat.le_trans (dle t (a := 13) (c := 14) (by decide)) h1) h2) (Or.inr (Nat.le_trans (dle t (a := 14) (c := 14) (by decide)) h1))
  have f17 := hS68_11.nin f17 (Or.inr (dle t (a := 14) (c := 17) (by decide)))
  have f20 := hS68_11.nin f20 (Or.inr (dle t (a := 14) (c := 20) (by decide)))
  have hfu : ∀ x, t + 21 ≤ x → x < t + 40 → x ∉ G68_11.L := fun x h1 h2 => hS68_11.nin (hfu x (Nat.le_trans (dle t (a := 21) (c := 21) (by decide)) h1) h2) (Or.inr (Nat.le_trans (dle t (a := 14) (c := 21) (by decide)) h1))
  have hkd : ∀ i, i < 44 → G68_11.kd (t + i) = kTb i := by rw [EX_kd hS68_11]; exact hkd
  have qt_0 := hS68_11.rv (Or.inl (dl t (a := 0) (c := 13) (by decide))) qt_0
  have wt_1 := wt_1.em hS68_11
  have wt_1I := (fun i hi => ⟨(wt_1I i hi).1.em hS68_11, hS68_11.rv (by omega) (wt_1I i hi).2⟩ : ∀ i, i < tm tab → isA _ (t + 2 + i) 13 (tC tab) ∧ GW.rv _ (t + 1) i = some (t + 2 + i))
  have qt_2 := hS68_11.rv (Or.inl (dl t (a := 0) (c := 13) (by decide))) qt_2
  have wt_10 := wt_10.em hS68_11
  have qt_3 := hS68_11.rv (Or.inl (dl t (a := 0) (c := 13) (by decide))) qt_3
  have wt_11 := wt_11.em hS68_11
  have qt_4 := hS68_11.rv (Or.inl (dl t (a := 0) (c := 13) (by decide))) qt_4
  have wt_12 := wt_12.em hS68_11
  have qt_5 := hS68_11.rv (Or.inl (dl t (a := 0) (c := 13) (by decide))) qt_5
  have hEX := hEX.tr (hS68_11.mono (c := t) (d := t + 40) (dle t (a := 0) (c := 13) (by decide)) (dle t (a := 14) (c := 40) (by decide)))
  have hU68_11 : Fr iv58_9 (clr iv58_9 (t + 13) 0) (fun b0 _ => b0 = t + 13) := Fr.clr Fr.rf (fun _ => rfl)
  have hJ68_11 : FrJ jv58_9 (clr jv58_9 (t + 13) 0) (fun b0 _ => b0 = t + 13) := FrJ.clr FrJ.rf (fun _ => rfl)
  have hLy := hLy.fr2 hU68_11 hJ68_11 (fun lb j _ _ => by omega) (fun lb j _ _ => by omega)
  have zt7 := (hU68_11 _ _ (dn t (a := 0) (c := 13) (by decide))).trans zt7
  have zt10 := (hU68_11 _ _ (dn t (a := 0) (c := 13) (by decide))).trans zt10
  have zt12 := (hU68_11 _ _ (dn t (a := 0) (c := 13) (by decide))).trans zt12
  have zt16 := (hU68_11 _ _ (dn t (a := 0) (c := 13) (by decide))).trans zt16
  have it_1 := (hU68_11 _ _ (dn t (a := 0) (c := 13) (by decide))).trans it_1
  have hFr := hFr.tr (hU68_11.mono (P' := fun lb _ => t ≤ lb ∧ lb < t + 40) (fun lb j h => by rw [h]; exact ⟨dle t (a := 0) (c := 13) (by decide), dl t (a := 13) (c := 40) (by decide)⟩))
  have hFj := hFj.tr (hJ68_11.mono (P' := fun lb _ => t ≤ lb ∧ lb < t + 40) (fun lb j h => by rw [h]; exact ⟨dle t (a := 0) (c := 13) (by decide), dl t (a := 13) (c := 40) (by decide)⟩))
  generalize clr iv58_9 (t + 13) 0 = iv68_11 at hH hFr hU68_11 hLy zt7 zt10 zt12 zt16 it_1
  generalize clr jv58_9 (t + 13) 0 = jv68_11 at hH hFj hJ68_11 hLy
  refine rg_putrF hE hH cf_X7 fl_X7_40 rfl fn_X7_6 fo_X7_6 hnm (wt.1) (wt.2) (v := t + 13) (wt_13.1) dX7_init_70 (fun H locs hH => ?_)
  have hX70_12 := GX.set (G := G68_11) (lb := t) (k := 6) (v := some (t + 13))
  have hS70_12 := EX.set (G := G68_11) (lb := t) (k := 6) (v := some (t + 13))
  have qt_6 := setR_s (G := G68_11) (lb := t) (k := 6) (v := some (t + 13))
  generalize (G68_11.setR (up2 G68_11.rv t 6 (some (t + 13)))) = G70_12 at hH hX70_12 hS70_12 qt_6
  have hl : lv_has ls 3 [(0, .ref (G70_12.ad t)), (1, .ref (G70_12.ad b))] := by rw [hS70_12.adm (wt.1), hS70_12.adm (hL.1.1)]; exact hl
  have hL := hL.e hS70_12 (by omega)
  have wt := And.intro (hS70_12.mem wt.1) (hS70_12.kd wt.2)
  have hfa : ∀ x, t + 14 ≤ x → x < t + 17 → x ∉ G70_12.L := fun x h1 h2 => hS70_12.nin (hfa x (Nat.le_trans (dle t (a := 14) (c := 14) (by decide)) h1) h2) (Or.inr (Nat.le_trans (dle t (a := 1) (c := 14) (by decide)) h1))
  have f17 := hS70_12.nin f17 (Or.inr (dle t (a := 1) (c := 17) (by decide)))
  have f20 := hS70_12.nin f20 (Or.inr (dle t (a := 1) (c := 20) (by decide)))
  have hfu : ∀ x, t + 21 ≤ x → x < t + 40 → x ∉ G70_12.L := fun x h1 h2 => hS70_12.nin (hfu x (Nat.le_trans (dle t (a := 21) (c := 21) (by decide)) h1) h2) (Or.inr (Nat.le_trans (dle t (a := 1) (c := 21) (by decide)) h1))
  have hkd : ∀ i, i < 44 → G70_12.kd (t + i) = kTb i := by rw [EX_kd hS70_12]; exact hkd
  have qt_0 := hX70_12.rv List.not_mem_nil (fun h => absurd h.2 (by decide)) qt_0
  have wt_1 := wt_1.em hS70_12
  have wt_1I := (fun i hi => ⟨(wt_1I i hi).1.em hS70_12, hS70_12.rv (by omega) (wt_1I i hi).2⟩ : ∀ i, i < tm tab → isA _ (t + 2 + i) 13 (tC tab) ∧ GW.rv _ (t + 1) i = some (t + 2 + i))
  have qt_2 := hX70_12.rv List.not_mem_nil (fun h => absurd h.2 (by decide)) qt_2
  have wt_10 := wt_10.em hS70_12
  have qt_3 := hX70_12.rv List.not_mem_nil (fun h => absurd h.2 (by decide)) qt_3
  have wt_11 := wt_11.em hS70_12
  have qt_4 := hX70_12.rv List.not_mem_nil (fun h => absurd h.2 (by decide)) qt_4
  have wt_12 := wt_12.em hS70_12
  have qt_5 := hX70_12.rv List.not_mem_nil (fun h => absurd h.2 (by decide)) qt_5
  have wt_13 := wt_13.em hS70_12
  have hEX := hEX.tr (hS70_12.mono (c := t) (d := t + 40) (dle t (a := 0) (c := 0) (by decide)) (dle t (a := 1) (c := 40) (by decide)))
  refine lv_aload_n hE.1 hE.2.1 dX7_init_73 rfl (lv_at hl 1 rfl) ?_
  refine rg_getr hE hH cf_X1 fl_X7_43 rfl (hL.1.1) (hL.1.2) (v := b + 30) (hL.2.2.2.2.2.2.2) dX7_init_74 ?_
  refine rg_geti hE hH cf_X6 fl_X7_47 rfl (hL.2.2.2.1.1.1) (hL.2.2.2.1.1.2) (v := nI (tR tab)) (hLy.2.2.1) dX7_init_77 ?_
  refine lv_aload_n hE.1 hE.2.1 dX7_init_80 rfl (lv_at hl 1 rfl) ?_
  refine rg_getr hE hH cf_X1 fl_X7_43 rfl (hL.1.1) (hL.1.2) (v := b + 30) (hL.2.2.2.2.2.2.2) dX7_init_81 ?_
  refine rg_geti hE hH cf_X6 fl_X7_47 rfl (hL.2.2.2.1.1.1) (hL.2.2.2.1.1.2) (v := nI (tR tab)) (hLy.2.2.1) dX7_init_84 ?_
  refine lv_iconst (v := nI 1) hE.1 hE.2.1 dX7_init_87 (by decide) ?_
  refine lv_isub hE.1 hE.2.1 dX7_init_88 ?_
  refine lv_imul hE.1 hE.2.1 dX7_init_89 ?_
  refine rn_as (v' := nI (tR tab * (tR tab - 1))) ((tri1 _ hR40).1) ?_
  refine lv_iconst (v := nI 2) hE.1 hE.2.1 dX7_init_90 (by decide) ?_
  refine rn_idiv hE dX7_init_91 (by omega) (by omega) (by omega) ?_
  refine lv_istore_n (lv' := [(2, .int (nI ((tR tab * (tR tab - 1)) / 2))), (0, .ref (G70_12.ad t)), (1, .ref (G70_12.ad b))]) hE.1 hE.2.1 dX7_init_92 rfl hl (by decide) rfl (fun ls hl => ?_)
  refine lv_aload_n hE.1 hE.2.1 dX7_init_93 rfl (lv_at hl 1 rfl) ?_
  refine lv_iload_n hE.1 hE.2.1 dX7_init_94 rfl (lv_at hl 0 rfl) ?_
  refine rg_newI (ty := .int) rfl hE hH (t + 14) (hfa (t + 14) (by omega) (by omega)) (hkd 14 (by omega)) (Or.inr (Or.inl ⟨rfl, rfl⟩)) (by omega) (by show 0 + 1 + (tm tab) + 1 + 1 + 1 + 1 + 1 ≤ 30; omega) (by show 0 + (tm tab) + (tm tab) * (tC tab) + (tC tab) + (tC tab) + (tC tab) + (tC tab) + ((tR tab * (tR tab - 1)) / 2) ≤ 81000; omega) dX7_init_95 (fun G95_13 H hX95_13 hln95_13 hrv95_13 hH => ?_)
  have hS95_13 := hX95_13.ex1 (hfa (t + 14) (by omega) (by omega))
  have wt_14 : isA G95_13 (t + 14) 13 ((tR tab * (tR tab - 1)) / 2) := ⟨hX95_13.new (List.mem_singleton_self _), hX95_13.kd (hkd 14 (by omega)), hln95_13⟩
  have hl : lv_has ls 3 [(2, .int (nI ((tR tab * (tR tab - 1)) / 2))), (0, .ref (G95_13.ad t)), (1, .ref (G95_13.ad b))] := by rw [hS95_13.adm (wt.1), hS95_13.adm (hL.1.1)]; exact hl
  refine rg_st (st' := [.ref (G95_13.ad (t + 14)), .ref (G95_13.ad t)]) (by rw [hS95_13.adm (wt.1)]) ?_
  have hL := hL.e hS95_13 (by omega)
  have wt := And.intro (hS95_13.mem wt.1) (hS95_13.kd wt.2)
  have hfa : ∀ x, t + 15 ≤ x → x < t + 17 → x ∉ G95_13.L := fun x h1 h2 => hS95_13.nin (hfa x (Nat.le_trans (dle t (a := 14) (c := 15) (by decide)) h1) h2) (Or.inr (Nat.le_trans (dle t (a := 15) (c := 15) (by decide)) h1))
  have f17 := hS95_13.nin f17 (Or.inr (dle t (a := 15) (c := 17) (by decide)))
  have f20 := hS95_13.nin f20 (Or.inr (dle t (a := 15) (c := 20) (by decide)))
  have hfu : ∀ x, t + 21 ≤ x → x < t + 40 → x ∉ G95_13.L := fun x h1 h2 => hS95_13.nin (hfu x (Nat.le_trans (dle t (a := 21) (c := 21) (by decide)) h1) h2) (Or.inr (Nat.le_trans (dle t (a := 15) (c := 21) (by decide)) h1))
  have hkd : ∀ i, i < 44 → G95_13.kd (t + i) = kTb i := by rw [EX_kd hS95_13]; exact hkd
  have qt_0 := hS95_13.rv (Or.inl (dl t (a := 0) (c := 14) (by decide))) qt_0
  have wt_1 := wt_1.em hS95_13
  have wt_1I := (fun i hi => ⟨(wt_1I i hi).1.em hS95_13, hS95_13.rv (by omega) (wt_1I i hi).2⟩ : ∀ i, i < tm tab → isA _ (t + 2 + i) 13 (tC tab) ∧ GW.rv _ (t + 1) i = some (t + 2 + i))
  have qt_2 := hS95_13.rv (Or.inl (dl t (a := 0) (c := 14) (by decide))) qt_2
  have wt_10 := wt_10.em hS95_13
  have qt_3 := hS95_13.rv (Or.inl (dl t (a := 0) (c := 14) (by decide))) qt_3
  have wt_11 := wt_11.em hS95_13
  have qt_4 := hS95_13.rv (Or.inl (dl t (a := 0) (c := 14) (by decide))) qt_4
  have wt_12 := wt_12.em hS95_13
  have qt_5 := hS95_13.rv (Or.inl (dl t (a := 0) (c := 14) (by decide))) qt_5
  have wt_13 := wt_13.em hS95_13
  have qt_6 := hS95_13.rv (Or.inl (dl t (a := 0) (c := 14) (by decide))) qt_6
  have hEX := hEX.tr (hS95_13.mono (c := t) (d := t + 40) (dle t (a := 0) (c := 14) (by decide)) (dle t (a := 15) (c := 40) (by decide)))
  have hU95_13 : Fr iv68_11 (clr iv68_11 (t + 14) 0) (fun b0 _ => b0 = t + 14) := Fr.clr Fr.rf (fun _ => rfl)
  have hJ95_13 : FrJ jv68_11 (clr jv68_11 (t + 14) 0) (fun b0 _ => b0 = t + 14) := FrJ.clr FrJ.rf (fun _ => rfl)
  have hLy := hLy.fr2 hU95_13 hJ95_13 (fun lb j _ _ => by omega) (fun lb j _ _ => by omega)
  have zt7 := (hU95_13 _ _ (dn t (a := 0) (c := 14) (by decide))).trans zt7
  have zt10 := (hU95_13 _ _ (dn t (a := 0) (c := 14) (by decide))).trans zt10
  have zt12 := (hU95_13 _ _ (dn t (a := 0) (c := 14) (by decide))).trans zt12
  have zt16 := (hU95_13 _ _ (dn t (a := 0) (c := 14) (by decide))).trans zt16
  have it_1 := (hU95_13 _ _ (dn t (a := 0) (c := 14) (by decide))).trans it_1
  have hFr := hFr.tr (hU95_13.mono (P' := fun lb _ => t ≤ lb ∧ lb < t + 40) (fun lb j h => by rw [h]; exact ⟨dle t (a := 0) (c := 14) (by decide), dl t (a := 14) (c := 40) (by decide)⟩))
  have hFj := hFj.tr (hJ95_13.mono (P' := fun lb _ => t ≤ lb ∧ lb < t + 40) (fun lb j h => by rw [h]; exact ⟨dle t (a := 0) (c := 14) (by decide), dl t (a := 14) (c := 40) (by decide)⟩))
  generalize clr iv68_11 (t + 14) 0 = iv95_13 at hH hFr hU95_13 hLy zt7 zt10 zt12 zt16 it_1
  generalize clr jv68_11 (t + 14) 0 = jv95_13 at hH hFj hJ95_13 hLy
  refine rg_putrF hE hH cf_X7 fl_X7_52 rfl fn_X7_8 fo_X7_8 hnm (wt.1) (wt.2) (v := t + 14) (wt_14.1) dX7_init_97 (fun H locs hH => ?_)
  have hX97_14 := GX.set (G := G95_13) (lb := t) (k := 8) (v := some (t + 14))
  have hS97_14 := EX.set (G := G95_13) (lb := t) (k := 8) (v := some (t + 14))
  have qt_8 := setR_s (G := G95_13) (lb := t) (k := 8) (v := some (t + 14))
  generalize (G95_13.setR (up2 G95_13.rv t 8 (some (t + 14)))) = G97_14 at hH hX97_14 hS97_14 qt_8
  have hl : lv_has ls 3 [(2, .int (nI ((tR tab * (tR tab - 1)) / 2))), (0, .ref (G97_14.ad t)), (1, .ref (G97_14.ad b))] := by rw [hS97_14.adm (wt.1), hS97_14.adm (hL.1.1)]; exact hl
  have hL := hL.e hS97_14 (by omega)
  have wt := And.intro (hS97_14.mem wt.1) (hS97_14.kd wt.2)
  have hfa : ∀ x, t + 15 ≤ x → x < t + 17 → x ∉ G97_14.L := fun x h1 h2 => hS97_14.nin (hfa x (Nat.le_trans (dle t (a := 15) (c := 15) (by decide)) h1) h2) (Or.inr (Nat.le_trans (dle t (a := 1) (c := 15) (by decide)) h1))
  have f17 := hS97_14.nin f17 (Or.inr (dle t (a := 1) (c := 17) (by decide)))
  have f20 := hS97_14.nin f20 (Or.inr (dle t (a := 1) (c := 20) (by decide)))
  have hfu : ∀ x, t + 21 ≤ x → x < t + 40 → x ∉ G97_14.L := fun x h1 h2 => hS97_14.nin (hfu x (Nat.le_trans (dle t (a := 21) (c := 21) (by decide)) h1) h2) (Or.inr (Nat.le_trans (dle t (a := 1) (c := 21) (by decide)) h1))
  have hkd : ∀ i, i < 44 → G97_14.kd (t + i) = kTb i := by rw [EX_kd hS97_14]; exact hkd
  have qt_0 := hX97_14.rv List.not_mem_nil (fun h => absurd h.2 (by decide)) qt_0
  have wt_1 := wt_1.em hS97_14
  have wt_1I := (fun i hi => ⟨(wt_1I i hi).1.em hS97_14, hS97_14.rv (by omega) (wt_1I i hi).2⟩ : ∀ i, i < tm tab → isA _ (t + 2 + i) 13 (tC tab) ∧ GW.rv _ (t + 1) i = some (t + 2 + i))
  have qt_2 := hX97_14.rv List.not_mem_nil (fun h => absurd h.2 (by decide)) qt_2
  have wt_10 := wt_10.em hS97_14
  have qt_3 := hX97_14.rv List.not_mem_nil (fun h => absurd h.2 (by decide)) qt_3
  have wt_11 := wt_11.em hS97_14
  have qt_4 := hX97_14.rv List.not_mem_nil (fun h => absurd h.2 (by decide)) qt_4
  have wt_12 := wt_12.em hS97_14
  have qt_5 := hX97_14.rv List.not_mem_nil (fun h => absurd h.2 (by decide)) qt_5
  have wt_13 := wt_13.em hS97_14
  have qt_6 := hX97_14.rv List.not_mem_nil (fun h => absurd h.2 (by decide)) qt_6
  have wt_14 := wt_14.em hS97_14
  have hEX := hEX.tr (hS97_14.mono (c := t) (d := t + 40) (dle t (a := 0) (c := 0) (by decide)) (dle t (a := 1) (c := 40) (by decide)))
  refine lv_aload_n hE.1 hE.2.1 dX7_init_100 rfl (lv_at hl 1 rfl) ?_
  refine lv_iload_n hE.1 hE.2.1 dX7_init_101 rfl (lv_at hl 0 rfl) ?_
  refine rg_newI (ty := .int) rfl hE hH (t + 15) (hfa (t + 15) (by omega) (by omega)) (hkd 15 (by omega)) (Or.inr (Or.inl ⟨rfl, rfl⟩)) (by omega) (by show 0 + 1 + (tm tab) + 1 + 1 + 1 + 1 + 1 + 1 ≤ 30; omega) (by show 0 + (tm tab) + (tm tab) * (tC tab) + (tC tab) + (tC tab) + (tC tab) + (tC tab) + ((tR tab * (tR tab - 1)) / 2) + ((tR tab * (tR tab - 1)) / 2) ≤ 81000; omega) dX7_init_102 (fun G102_15 H hX102_15 hln102_15 hrv102_15 hH => ?_)
  have hS102_15 := hX102_15.ex1 (hfa (t + 15) (by omega) (by omega))
  have wt_15 : isA G102_15 (t + 15) 13 ((tR tab * (tR tab - 1)) / 2) := ⟨hX102_15.new (List.mem_singleton_self _), hX102_15.kd (hkd 15 (by omega)), hln102_15⟩
  have hl : lv_has ls 3 [(2, .int (nI ((tR tab * (tR tab - 1)) / 2))), (0, .ref (G102_15.ad t)), (1, .ref (G102_15.ad b))] := by rw [hS102_15.adm (wt.1), hS102_15.adm (hL.1.1)]; exact hl
  refine rg_st (st' := [.ref (G102_15.ad (t + 15)), .ref (G102_15.ad t)]) (by rw [hS102_15.adm (wt.1)]) ?_
  have hL := hL.e hS102_15 (by omega)
  have wt := And.intro (hS102_15.mem wt.1) (hS102_15.kd wt.2)
  have hfa : ∀ x, t + 16 ≤ x → x < t + 17 → x ∉ G102_15.L := fun x h1 h2 => hS102_15.nin (hfa x (Nat.le_trans (dle t (a := 15) (c := 16) (by decide)) h1) h2) (Or.inr (Nat.le_trans (dle t (a := 16) (c := 16) (by decide)) h1))
  have f17 := hS102_15.nin f17 (Or.inr (dle t (a := 16) (c := 17) (by decide)))
  have f20 := hS102_15.nin f20 (Or.inr (dle t (a := 16) (c := 20) (by decide)))
  have hfu : ∀ x, t + 21 ≤ x → x < t + 40 → x ∉ G102_15.L := fun x h1 h2 => hS102_15.nin (hfu x (Nat.le_trans (dle t (a := 21) (c := 21) (by decide)) h1) h2) (Or.inr (Nat.le_trans (dle t (a := 16) (c := 21) (by decide)) h1))
  have hkd : ∀ i, i < 44 → G102_15.kd (t + i) = kTb i := by rw [EX_kd hS102_15]; exact hkd
  have qt_0 := hS102_15.rv (Or.inl (dl t (a := 0) (c := 15) (by decide))) qt_0
  have wt_1 := wt_1.em hS102_15
  have wt_1I := (fun i hi => ⟨(wt_1I i hi).1.em hS102_15, hS102_15.rv (by omega) (wt_1I i hi).2⟩ : ∀ i, i < tm tab → isA _ (t + 2 + i) 13 (tC tab) ∧ GW.rv _ (t + 1) i = some (t + 2 + i))
  have qt_2 := hS102_15.rv (Or.inl (dl t (a := 0) (c := 15) (by decide))) qt_2
  have wt_10 := wt_10.em hS102_15
  have qt_3 := hS102_15.rv (Or.inl (dl t (a := 0) (c := 15) (by decide))) qt_3
  have wt_11 := wt_11.em hS102_15
  have qt_4 := hS102_15.rv (Or.inl (dl t (a := 0) (c := 15) (by decide))) qt_4
  have wt_12 := wt_12.em hS102_15
  have qt_5 := hS102_15.rv (Or.inl (dl t (a := 0) (c := 15) (by decide))) qt_5
  have wt_13 := wt_13.em hS102_15
  have qt_6 := hS102_15.rv (Or.inl (dl t (a := 0) (c := 15) (by decide))) qt_6
  have wt_14 := wt_14.em hS102_15
  have qt_8 := hS102_15.rv (Or.inl (dl t (a := 0) (c := 15) (by decide))) qt_8
  have hEX := hEX.tr (hS102_15.mono (c := t) (d := t + 40) (dle t (a := 0) (c := 15) (by decide)) (dle t (a := 16) (c := 40) (by decide)))
  have hU102_15 : Fr iv95_13 (clr iv95_13 (t + 15) 0) (fun b0 _ => b0 = t + 15) := Fr.clr Fr.rf (fun _ => rfl)
  have hJ102_15 : FrJ jv95_13 (clr jv95_13 (t + 15) 0) (fun b0 _ => b0 = t + 15) := FrJ.clr FrJ.rf (fun _ => rfl)
  have hLy := hLy.fr2 hU102_15 hJ102_15 (fun lb j _ _ => by omega) (fun lb j _ _ => by omega)
  have zt7 := (hU102_15 _ _ (dn t (a := 0) (c := 15) (by decide))).trans zt7
  have zt10 := (hU102_15 _ _ (dn t (a := 0) (c := 15) (by decide))).trans zt10
  have zt12 := (hU102_15 _ _ (dn t (a := 0) (c := 15) (by decide))).trans zt12
  have zt16 := (hU102_15 _ _ (dn t (a := 0) (c := 15) (by decide))).trans zt16
  have it_1 := (hU102_15 _ _ (dn t (a := 0) (c := 15) (by decide))).trans it_1
  have hFr := hFr.tr (hU102_15.mono (P' := fun lb _ => t ≤ lb ∧ lb < t + 40) (fun lb j h => by rw [h]; exact ⟨dle t (a := 0) (c := 15) (by decide), dl t (a := 15) (c := 40) (by decide)⟩))
  have hFj := hFj.tr (hJ102_15.mono (P' := fun lb _ => t ≤ lb ∧ lb < t + 40) (fun lb j h => by rw [h]; exact ⟨dle t (a := 0) (c := 15) (by decide), dl t (a := 15) (c := 40) (by decide)⟩))
  generalize clr iv95_13 (t + 15) 0 = iv102_15 at hH hFr hU102_15 hLy zt7 zt10 zt12 zt16 it_1
  generalize clr jv95_13 (t + 15) 0 = jv102_15 at hH hFj hJ102_15 hLy
  refine rg_putrF hE hH cf_X7 fl_X7_55 rfl fn_X7_9 fo_X7_9 hnm (wt.1) (wt.2) (v := t + 15) (wt_15.1) dX7_init_104 (fun H locs hH => ?_)
  have hX104_16 := GX.set (G := G102_15) (lb := t) (k := 9) (v := some (t + 15))
  have hS104_16 := EX.set (G := G102_15) (lb := t) (k := 9) (v := some (t + 15))
  have qt_9 := setR_s (G := G102_15) (lb := t) (k := 9) (v := some (t + 15))
  generalize (G102_15.setR (up2 G102_15.rv t 9 (some (t + 15)))) = G104_16 at hH hX104_16 hS104_16 qt_9
  have hl : lv_has ls 3 [(2, .int (nI ((tR tab * (tR tab - 1)) / 2))), (0, .ref (G104_16.ad t)), (1, .ref (G104_16.ad b))] := by rw [hS104_16.adm (wt.1), hS104_16.adm (hL.1.1)]; exact hl
  have hL := hL.e hS104_16 (by omega)
  have wt := And.intro (hS104_16.mem wt.1) (hS104_16.kd wt.2)
  have hfa : ∀ x, t + 16 ≤ x → x < t + 17 → x ∉ G104_16.L := fun x h1 h2 => hS104_16.nin (hfa x (Nat.le_trans (dle t (a := 16) (c := 16) (by decide)) h1) h2) (Or.inr (Nat.le_trans (dle t (a := 1) (c := 16) (by decide)) h1))
  have f17 := hS104_16.nin f17 (Or.inr (dle t (a := 1) (c := 17) (by decide)))
  have f20 := hS104_16.nin f20 (Or.inr (dle t (a := 1) (c := 20) (by decide)))
  have hfu : ∀ x, t + 21 ≤ x → x < t + 40 → x ∉ G104_16.L := fun x h1 h2 => hS104_16.nin (hfu x (Nat.le_trans (dle t (a := 21) (c := 21) (by decide)) h1) h2) (Or.inr (Nat.le_trans (dle t (a := 1) (c := 21) (by decide)) h1))
  have hkd : ∀ i, i < 44 → G104_16.kd (t + i) = kTb i := by rw [EX_kd hS104_16]; exact hkd
  have qt_0 := hX104_16.rv List.not_mem_nil (fun h => absurd h.2 (by decide)) qt_0
  have wt_1 := wt_1.em hS104_16
  have wt_1I := (fun i hi => ⟨(wt_1I i hi).1.em hS104_16, hS104_16.rv (by omega) (wt_1I i hi).2⟩ : ∀ i, i < tm tab → isA _ (t + 2 + i) 13 (tC tab) ∧ GW.rv _ (t + 1) i = some (t + 2 + i))
  have qt_2 := hX104_16.rv List.not_mem_nil (fun h => absurd h.2 (by decide)) qt_2
  have wt_10 := wt_10.em hS104_16
  have qt_3 := hX104_16.rv List.not_mem_nil (fun h => absurd h.2 (by decide)) qt_3
  have wt_11 := wt_11.em hS104_16
  have qt_4 := hX104_16.rv List.not_mem_nil (fun h => absurd h.2 (by decide)) qt_4
  have wt_12 := wt_12.em hS104_16
  have qt_5 := hX104_16.rv List.not_mem_nil (fun h => absurd h.2 (by decide)) qt_5
  have wt_13 := wt_13.em hS104_16
  have qt_6 := hX104_16.rv List.not_mem_nil (fun h => absurd h.2 (by decide)) qt_6
  have wt_14 := wt_14.em hS104_16
  have qt_8 := hX104_16.rv List.not_mem_nil (fun h => absurd h.2 (by decide)) qt_8
  have wt_15 := wt_15.em hS104_16
  have hEX := hEX.tr (hS104_16.mono (c := t) (d := t + 40) (dle t (a := 0) (c := 0) (by decide)) (dle t (a := 1) (c := 40) (by decide)))
  refine lv_aload_n hE.1 hE.2.1 dX7_init_107 rfl (lv_at hl 1 rfl) ?_
  refine lv_aload_n hE.1 hE.2.1 dX7_init_108 rfl (lv_at hl 2 rfl) ?_
  refine rg_getr hE hH cf_X1 fl_X7_43 rfl (hL.1.1) (hL.1.2) (v := b + 30) (hL.2.2.2.2.2.2.2) dX7_init_109 ?_
  refine rg_geti hE hH cf_X6 fl_X7_47 rfl (hL.2.2.2.1.1.1) (hL.2.2.2.1.1.2) (v := nI (tR tab)) (hLy.2.2.1) dX7_init_112 ?_
  refine rg_newI (ty := .boolean) rfl hE hH (t + 16) (hfa (t + 16) (by omega) (by omega)) (hkd 16 (by omega)) (Or.inr (Or.inr ⟨rfl, rfl⟩)) (by omega) (by show 0 + 1 + (tm tab) + 1 + 1 + 1 + 1 + 1 + 1 + 1 ≤ 30; omega) (by show 0 + (tm tab) + (tm tab) * (tC tab) + (tC tab) + (tC tab) + (tC tab) + (tC tab) + ((tR tab * (tR tab - 1)) / 2) + ((tR tab * (tR tab - 1)) / 2) + (tR tab) ≤ 81000; omega) dX7_init_115 (fun G115_17 H hX115_17 hln115_17 hrv115_17 hH => ?_)
  have hS115_17 := hX115_17.ex1 (hfa (t + 16) (by omega) (by omega))
  have wt_16 : isA G115_17 (t + 16) 15 (tR tab) := ⟨hX115_17.new (List.mem_singleton_self _), hX115_17.kd (hkd 16 (by omega)), hln115_17⟩
  have hl : lv_has ls 3 [(2, .int (nI ((tR tab * (tR tab - 1)) / 2))), (0, .ref (G115_17.ad t)), (1, .ref (G115_17.ad b))] := by rw [hS115_17.adm (wt.1), hS115_17.adm (hL.1.1)]; exact hl
  refine rg_st (st' := [.ref (G115_17.ad (t + 16)), .ref (G115_17.ad t)]) (by rw [hS115_17.adm (wt.1)]) ?_
  have hL := hL.e hS115_17 (by omega)
  have wt := And.intro (hS115_17.mem wt.1) (hS115_17.kd wt.2)
  have hfa : ∀ x, t + 17 ≤ x → x < t + 17 → x ∉ G115_17.L := fun x h1 h2 => hS115_17.nin (hfa x (Nat.le_trans (dle t (a := 16) (c := 17) (by decide)) h1) h2) (Or.inr (Nat.le_trans (dle t (a := 17) (c := 17) (by decide)) h1))
  have f17 := hS115_17.nin f17 (Or.inr (dle t (a := 17) (c := 17) (by decide)))
  have f20 := hS115_17.nin f20 (Or.inr (dle t (a := 17) (c := 20) (by decide)))
  have hfu : ∀ x, t + 21 ≤ x → x < t + 40 → x ∉ G115_17.L := fun x h1 h2 => hS115_17.nin (hfu x (Nat.le_trans (dle t (a := 21) (c := 21) (by decide)) h1) h2) (Or.inr (Nat.le_trans (dle t (a := 17) (c := 21) (by decide)) h1))
  have hkd : ∀ i, i < 44 → G115_17.kd (t + i) = kTb i := by rw [EX_kd hS115_17]; exact hkd
  have qt_0 := hS115_17.rv (Or.inl (dl t (a := 0) (c := 16) (by decide))) qt_0
  have wt_1 := wt_1.em hS115_17
  have wt_1I := (fun i hi => ⟨(wt_1I i hi).1.em hS115_17, hS115_17.rv (by omega) (wt_1I i hi).2⟩ : ∀ i, i < tm tab → isA _ (t + 2 + i) 13 (tC tab) ∧ GW.rv _ (t + 1) i = some (t + 2 + i))
  have qt_2 := hS115_17.rv (Or.inl (dl t (a := 0) (c := 16) (by decide))) qt_2
  have wt_10 := wt_10.em hS115_17
  have qt_3 := hS115_17.rv (Or.inl (dl t (a := 0) (c := 16) (by decide))) qt_3
  have wt_11 := wt_11.em hS115_17
  have qt_4 := hS115_17.rv (Or.inl (dl t (a := 0) (c := 16) (by decide))) qt_4
  have wt_12 := wt_12.em hS115_17
  have qt_5 := hS115_17.rv (Or.inl (dl t (a := 0) (c := 16) (by decide))) qt_5
  have wt_13 := wt_13.em hS115_17
  have qt_6 := hS115_17.rv (Or.inl (dl t (a := 0) (c := 16) (by decide))) qt_6
  have wt_14 := wt_14.em hS115_17
  have qt_8 := hS115_17.rv (Or.inl (dl t (a := 0) (c := 16) (by decide))) qt_8
  have wt_15 := wt_15.em hS115_17
  have qt_9 := hS115_17.rv (Or.inl (dl t (a := 0) (c := 16) (by decide))) qt_9
  have hEX := hEX.tr (hS115_17.mono (c := t) (d := t + 40) (dle t (a := 0) (c := 16) (by decide)) (dle t (a := 17) (c := 40) (by decide)))
  have hU115_17 : Fr iv102_15 (clr iv102_15 (t + 16) 0) (fun b0 _ => b0 = t + 16) := Fr.clr Fr.rf (fun _ => rfl)
  have hJ115_17 : FrJ jv102_15 (clr jv102_15 (t + 16) 0) (fun b0 _ => b0 = t + 16) := FrJ.clr FrJ.rf (fun _ => rfl)
  have hLy := hLy.fr2 hU115_17 hJ115_17 (fun lb j _ _ => by omega) (fun lb j _ _ => by omega)
  have zt7 := (hU115_17 _ _ (dn t (a := 0) (c := 16) (by decide))).trans zt7
  have zt10 := (hU115_17 _ _ (dn t (a := 0) (c := 16) (by decide))).trans zt10
  have zt12 := (hU115_17 _ _ (dn t (a := 0) (c := 16) (by decide))).trans zt12
  have zt16 := (hU115_17 _ _ (dn t (a := 0) (c := 16) (by decide))).trans zt16
  have it_1 := (hU115_17 _ _ (dn t (a := 0) (c := 16) (by decide))).trans it_1
  have hFr := hFr.tr (hU115_17.mono (P' := fun lb _ => t ≤ lb ∧ lb < t + 40) (fun lb j h => by rw [h]; exact ⟨dle t (a := 0) (c := 16) (by decide), dl t (a := 16) (c := 40) (by decide)⟩))
  have hFj := hFj.tr (hJ115_17.mono (P' := fun lb _ => t ≤ lb ∧ lb < t + 40) (fun lb j h => by rw [h]; exact ⟨dle t (a := 0) (c := 16) (by decide), dl t (a := 16) (c := 40) (by decide)⟩))
  generalize clr iv102_15 (t + 16) 0 = iv115_17 at hH hFr hU115_17 hLy zt7 zt10 zt12 zt16 it_1
  generalize clr jv102_15 (t + 16) 0 = jv115_17 at hH hFj hJ115_17 hLy
  refine rg_putrF hE hH cf_X7 fl_X7_58 rfl fn_X7_11 fo_X7_11 hnm (wt.1) (wt.2) (v := t + 16) (wt_16.1) dX7_init_117 (fun H locs hH => ?_)
  have hX117_18 := GX.set (G := G115_17) (lb := t) (k := 11) (v := some (t + 16))
  have hS117_18 := EX.set (G := G115_17) (lb := t) (k := 11) (v := some (t + 16))
  have qt_11 := setR_s (G := G115_17) (lb := t) (k := 11) (v := some (t + 16))
  generalize (G115_17.setR (up2 G115_17.rv t 11 (some (t + 16)))) = G117_18 at hH hX117_18 hS117_18 qt_11
  have hl : lv_has ls 3 [(2, .int (nI ((tR tab * (tR tab - 1)) / 2))), (0, .ref (G117_18.ad t)), (1, .ref (G117_18.ad b))] := by rw [hS117_18.adm (wt.1), hS117_18.adm (hL.1.1)]; exact hl
  have hL := hL.e hS117_18 (by omega)
  have wt := And.intro (hS117_18.mem wt.1) (hS117_18.kd wt.2)
  have hfa : ∀ x, t + 17 ≤ x → x < t + 17 → x ∉ G117_18.L := fun x h1 h2 => hS117_18.nin (hfa x (Nat.le_trans (dle t (a := 17) (c := 17) (by decide)) h1) h2) (Or.inr (Nat.le_trans (dle t (a := 1) (c := 17) (by decide)) h1))
  have f17 := hS117_18.nin f17 (Or.inr (dle t (a := 1) (c := 17) (by decide)))
  have f20 := hS117_18.nin f20 (Or.inr (dle t (a := 1) (c := 20) (by decide)))
  have hfu : ∀ x, t + 21 ≤ x → x < t + 40 → x ∉ G117_18.L := fun x h1 h2 => hS117_18.nin (hfu x (Nat.le_trans (dle t (a := 21) (c := 21) (by decide)) h1) h2) (Or.inr (Nat.le_trans (dle t (a := 1) (c := 21) (by decide)) h1))
  have hkd : ∀ i, i < 44 → G117_18.kd (t + i) = kTb i := by rw [EX_kd hS117_18]; exact hkd
  have qt_0 := hX117_18.rv List.not_mem_nil (fun h => absurd h.2 (by decide)) qt_0
  have wt_1 := wt_1.em hS117_18
  have wt_1I := (fun i hi => ⟨(wt_1I i hi).1.em hS117_18, hS117_18.rv (by omega) (wt_1I i hi).2⟩ : ∀ i, i < tm tab → isA _ (t + 2 + i) 13 (tC tab) ∧ GW.rv _ (t + 1) i = some (t + 2 + i))
  have qt_2 := hX117_18.rv List.not_mem_nil (fun h => absurd h.2 (by decide)) qt_2
  have wt_10 := wt_10.em hS117_18
  have qt_3 := hX117_18.rv List.not_mem_nil (fun h => absurd h.2 (by decide)) qt_3
  have wt_11 := wt_11.em hS117_18
  have qt_4 := hX117_18.rv List.not_mem_nil (fun h => absurd h.2 (by decide)) qt_4
  have wt_12 := wt_12.em hS117_18
  have qt_5 := hX117_18.rv List.not_mem_nil (fun h => absurd h.2 (by decide)) qt_5
  have wt_13 := wt_13.em hS117_18
  have qt_6 := hX117_18.rv List.not_mem_nil (fun h => absurd h.2 (by decide)) qt_6
  have wt_14 := wt_14.em hS117_18
  have qt_8 := hX117_18.rv List.not_mem_nil (fun h => absurd h.2 (by decide)) qt_8
  have wt_15 := wt_15.em hS117_18
  have qt_9 := hX117_18.rv List.not_mem_nil (fun h => absurd h.2 (by decide)) qt_9
  have wt_16 := wt_16.em hS117_18
  have hEX := hEX.tr (hS117_18.mono (c := t) (d := t + 40) (dle t (a := 0) (c := 0) (by decide)) (dle t (a := 1) (c := 40) (by decide)))
  refine lv_aload_n hE.1 hE.2.1 dX7_init_120 rfl (lv_at hl 1 rfl) ?_
  refine rg_newO (ci := 8) hE hH (t + 20) f20 (hkd 20 (by omega)) cf_X8 ⟨RX8, TX8, rfl, (b3 30 rfl rfl), (b3 31 rfl rfl), (b1 20 rfl rfl)⟩ (by show 0 + 1 + (tm tab) + 1 + 1 + 1 + 1 + 1 + 1 + 1 + 1 ≤ 30; omega) (by show 0 + (tm tab) + (tm tab) * (tC tab) + (tC tab) + (tC tab) + (tC tab) + (tC tab) + ((tR tab * (tR tab - 1)) / 2) + ((tR tab * (tR tab - 1)) / 2) + (tR tab) + 10 ≤ 81000; omega) dX7_init_121 (fun G121_19 H hX121_19 hln121_19 hrv121_19 hH => ?_)
  have hS121_19 := hX121_19.ex1 f20
  have wt_20 : (t + 20) ∈ G121_19.L ∧ G121_19.kd (t + 20) = 8 := ⟨hX121_19.new (List.mem_singleton_self _), hX121_19.kd (hkd 20 (by omega))⟩
  have hl : lv_has ls 3 [(2, .int (nI ((tR tab * (tR tab - 1)) / 2))), (0, .ref (G121_19.ad t)), (1, .ref (G121_19.ad b))] := by rw [hS121_19.adm (wt.1), hS121_19.adm (hL.1.1)]; exact hl
  refine rg_st (st' := [.ref (G121_19.ad (t + 20)), .ref (G121_19.ad t)]) (by rw [hS121_19.adm (wt.1)]) ?_
  have hL := hL.e hS121_19 (by omega)
  have wt := And.intro (hS121_19.mem wt.1) (hS121_19.kd wt.2)
  have hfa : ∀ x, t + 17 ≤ x → x < t + 17 → x ∉ G121_19.L := fun x h1 h2 => hS121_19.nin (hfa x (Nat.le_trans (dle t (a := 17) (c := 17) (by decide)) h1) h2) (Or.inl (Nat.lt_of_lt_of_le h2 (dle t (a := 17) (c := 20) (by decide))))
  have f17 := hS121_19.nin f17 (Or.inl (dl t (a := 17) (c := 20) (by decide)))
  have hfu : ∀ x, t + 21 ≤ x → x < t + 40 → x ∉ G121_19.L := fun x h1 h2 => hS121_19.nin (hfu x (Nat.le_trans (dle t (a := 21) (c := 21) (by decide)) h1) h2) (Or.inr (Nat.le_trans (dle t (a := 21) (c := 21) (by decide)) h1))
  have hkd : ∀ i, i < 44 → G121_19.kd (t + i) = kTb i := by rw [EX_kd hS121_19]; exact hkd
  have qt_0 := hS121_19.rv (Or.inl (dl t (a := 0) (c := 20) (by decide))) qt_0
  have wt_1 := wt_1.em hS121_19
  have wt_1I := (fun i hi => ⟨(wt_1I i hi).1.em hS121_19, hS121_19.rv (by omega) (wt_1I i hi).2⟩ : ∀ i, i < tm tab → isA _ (t + 2 + i) 13 (tC tab) ∧ GW.rv _ (t + 1) i = some (t + 2 + i))
  have qt_2 := hS121_19.rv (Or.inl (dl t (a := 0) (c := 20) (by decide))) qt_2
  have wt_10 := wt_10.em hS121_19
  have qt_3 := hS121_19.rv (Or.inl (dl t (a := 0) (c := 20) (by decide))) qt_3
  have wt_11 := wt_11.em hS121_19
  have qt_4 := hS121_19.rv (Or.inl (dl t (a := 0) (c := 20) (by decide))) qt_4
  have wt_12 := wt_12.em hS121_19
  have qt_5 := hS121_19.rv (Or.inl (dl t (a := 0) (c := 20) (by decide))) qt_5
  have wt_13 := wt_13.em hS121_19
  have qt_6 := hS121_19.rv (Or.inl (dl t (a := 0) (c := 20) (by decide))) qt_6
  have wt_14 := wt_14.em hS121_19
  have qt_8 := hS121_19.rv (Or.inl (dl t (a := 0) (c := 20) (by decide))) qt_8
  have wt_15 := wt_15.em hS121_19
  have qt_9 := hS121_19.rv (Or.inl (dl t (a := 0) (c := 20) (by decide))) qt_9
  have wt_16 := wt_16.em hS121_19
  have qt_11 := hS121_19.rv (Or.inl (dl t (a := 0) (c := 20) (by decide))) qt_11
  have hEX := hEX.tr (hS121_19.mono (c := t) (d := t + 40) (dle t (a := 0) (c := 20) (by decide)) (dle t (a := 21) (c := 40) (by decide)))
  have hU121_19 : Fr iv115_17 (clr iv115_17 (t + 20) 0) (fun b0 _ => b0 = t + 20) := Fr.clr Fr.rf (fun _ => rfl)
  have hJ121_19 : FrJ jv115_17 (clr jv115_17 (t + 20) 0) (fun b0 _ => b0 = t + 20) := FrJ.clr FrJ.rf (fun _ => rfl)
  have hLy := hLy.fr2 hU121_19 hJ121_19 (fun lb j _ _ => by omega) (fun lb j _ _ => by omega)
  have zt7 := (hU121_19 _ _ (dn t (a := 0) (c := 20) (by decide))).trans zt7
  have zt10 := (hU121_19 _ _ (dn t (a := 0) (c := 20) (by decide))).trans zt10
  have zt12 := (hU121_19 _ _ (dn t (a := 0) (c := 20) (by decide))).trans zt12
  have zt16 := (hU121_19 _ _ (dn t (a := 0) (c := 20) (by decide))).trans zt16
  have it_1 := (hU121_19 _ _ (dn t (a := 0) (c := 20) (by decide))).trans it_1
  have hFr := hFr.tr (hU121_19.mono (P' := fun lb _ => t ≤ lb ∧ lb < t + 40) (fun lb j h => by rw [h]; exact ⟨dle t (a := 0) (c := 20) (by decide), dl t (a := 20) (c := 40) (by decide)⟩))
  have hFj := hFj.tr (hJ121_19.mono (P' := fun lb _ => t ≤ lb ∧ lb < t + 40) (fun lb j h => by rw [h]; exact ⟨dle t (a := 0) (c := 20) (by decide), dl t (a := 20) (c := 40) (by decide)⟩))
  generalize clr iv115_17 (t + 20) 0 = iv121_19 at hH hFr hU121_19 hLy zt7 zt10 zt12 zt16 it_1
  generalize clr jv115_17 (t + 20) 0 = jv121_19 at hH hFj hJ121_19 hLy
  refine lv_dup hE.1 hE.2.1 dX7_init_124 rfl ?_
  refine lv_aload_n hE.1 hE.2.1 dX7_init_125 rfl (lv_at hl 2 rfl) ?_
  refine rg_IV (As := [.ref (G121_19.ad b)]) (rest := [.ref (G121_19.ad (t + 20)), .ref (G121_19.ad t)]) hE hml hH mc_X7_64 (c_Tm_init l z G121_19 iv121_19 jv121_19 b tab hk hL hLy (t + 20) wt_20 (fun x h1 h2 => hfu x (by omega) (by omega)) (fun i hi => by rw [Nat.add_assoc]; exact hkd (20 + i) (by omega)) (by omega)) rfl ⟨Nat.le_of_ble_eq_true rfl, Nat.le_of_ble_eq_true rfl⟩ rfl hl.1 (by simp [Value.category]) dX7_init_126 ⟨by show 0 + 1 + (tm tab) + 1 + 1 + 1 + 1 + 1 + 1 + 1 + 1 + 13 ≤ 30; omega, by show 0 + (tm tab) + (tm tab) * (tC tab) + (tC tab) + (tC tab) + (tC tab) + (tC tab) + ((tR tab * (tR tab - 1)) / 2) + ((tR tab * (tR tab - 1)) / 2) + (tR tab) + 10 + 75000 ≤ 81000; omega⟩ (fun G126 iv126 jv126 H locs hp126 hH => ?_)
  obtain ⟨hS126_20, hTm, hTs, hT2, hz10, hU126_20, hJ126_20⟩ := hp126
  have hl : lv_has ls 3 [(2, .int (nI ((tR tab * (tR tab - 1)) / 2))), (0, .ref (G126.ad t)), (1, .ref (G126.ad b))] := by rw [hS126_20.adm (wt.1), hS126_20.adm (hL.1.1)]; exact hl
  refine rg_st (st' := [.ref (G126.ad (t + 20)), .ref (G126.ad t)]) (by rw [hS126_20.adm (wt_20.1), hS126_20.adm (wt.1)]) ?_
  have hL := hL.e hS126_20 (by omega)
  have wt := And.intro (hS126_20.mem wt.1) (hS126_20.kd wt.2)
  have hfa : ∀ x, t + 17 ≤ x → x < t + 17 → x ∉ G126.L := fun x h1 h2 => hS126_20.nin (hfa x (by omega) h2) (by omega)
  have f17 := hS126_20.nin f17 (by omega)
  have hkd : ∀ i, i < 44 → G126.kd (t + i) = kTb i := by rw [EX_kd hS126_20]; exact hkd
  have qt_0 := hS126_20.rv (by omega) qt_0
  have wt_1 := wt_1.em hS126_20
  have wt_1I := (fun i hi => ⟨(wt_1I i hi).1.em hS126_20, hS126_20.rv (by omega) (wt_1I i hi).2⟩ : ∀ i, i < tm tab → isA _ (t + 2 + i) 13 (tC tab) ∧ GW.rv _ (t + 1) i = some (t + 2 + i))
  have qt_2 := hS126_20.rv (by omega) qt_2
  have wt_10 := wt_10.em hS126_20
  have qt_3 := hS126_20.rv (by omega) qt_3
  have wt_11 := wt_11.em hS126_20
  have qt_4 := hS126_20.rv (by omega) qt_4
  have wt_12 := wt_12.em hS126_20
  have qt_5 := hS126_20.rv (by omega) qt_5
  have wt_13 := wt_13.em hS126_20
  have qt_6 := hS126_20.rv (by omega) qt_6
  have wt_14 := wt_14.em hS126_20
  have qt_8 := hS126_20.rv (by omega) qt_8
  have wt_15 := wt_15.em hS126_20
  have qt_9 := hS126_20.rv (by omega) qt_9
  have wt_16 := wt_16.em hS126_20
  have qt_11 := hS126_20.rv (by omega) qt_11
  have wt_20 := And.intro (hS126_20.mem wt_20.1) (hS126_20.kd wt_20.2)
  have hEX := hEX.tr (hS126_20.mono (c := t) (d := t + 40) (by omega) (by omega))
  have hLy := hLy.fr2 hU126_20 hJ126_20 (fun lb j _ _ => by omega) (fun lb j _ _ => by omega)
  have zt7 := (hU126_20 _ _ (by omega)).trans zt7
  have zt10 := (hU126_20 _ _ (by omega)).trans zt10
  have zt12 := (hU126_20 _ _ (by omega)).trans zt12
  have zt16 := (hU126_20 _ _ (by omega)).trans zt16
  have it_1 := (hU126_20 _ _ (by omega)).trans it_1
  have hFr := hFr.tr (hU126_20.mono (P' := fun lb _ => t ≤ lb ∧ lb < t + 40) (fun lb j h => by omega))
  have hFj := hFj.tr (hJ126_20.mono (P' := fun lb _ => t ≤ lb ∧ lb < t + 40) (fun lb j h => by omega))
  refine rg_putrF hE hH cf_X7 fl_X7_67 rfl fn_X7_13 fo_X7_13 hnm (wt.1) (wt.2) (v := t + 20) (wt_20.1) dX7_init_129 (fun H locs hH => ?_)
  have hX129_21 := GX.set (G := G126) (lb := t) (k := 13) (v := some (t + 20))
  have hS129_21 := EX.set (G := G126) (lb := t) (k := 13) (v := some (t + 20))
  have qt_13 := setR_s (G := G126) (lb := t) (k := 13) (v := some (t + 20))
  generalize (G126.setR (up2 G126.rv t 13 (some (t + 20)))) = G129_21 at hH hX129_21 hS129_21 qt_13
  have hl : lv_has ls 3 [(2, .int (nI ((tR tab * (tR tab - 1)) / 2))), (0, .ref (G129_21.ad t)), (1, .ref (G129_21.ad b))] := by rw [hS129_21.adm (wt.1), hS129_21.adm (hL.1.1)]; exact hl
  have hL := hL.e hS129_21 (by omega)
  have wt := And.intro (hS129_21.mem wt.1) (hS129_21.kd wt.2)
  have hfa : ∀ x, t + 17 ≤ x → x < t + 17 → x ∉ G129_21.L := fun x h1 h2 => hS129_21.nin (hfa x (Nat.le_trans (dle t (a := 17) (c := 17) (by decide)) h1) h2) (Or.inr (Nat.le_trans (dle t (a := 1) (c := 17) (by decide)) h1))
  have f17 := hS129_21.nin f17 (Or.inr (dle t (a := 1) (c := 17) (by decide)))
  have hkd : ∀ i, i < 44 → G129_21.kd (t + i) = kTb i := by rw [EX_kd hS129_21]; exact hkd
  have qt_0 := hX129_21.rv List.not_mem_nil (fun h => absurd h.2 (by decide)) qt_0
  have wt_1 := wt_1.em hS129_21
  have wt_1I := (fun i hi => ⟨(wt_1I i hi).1.em hS129_21, hS129_21.rv (by omega) (wt_1I i hi).2⟩ : ∀ i, i < tm tab → isA _ (t + 2 + i) 13 (tC tab) ∧ GW.rv _ (t + 1) i = some (t + 2 + i))
  have qt_2 := hX129_21.rv List.not_mem_nil (fun h => absurd h.2 (by decide)) qt_2
  have wt_10 := wt_10.em hS129_21
  have qt_3 := hX129_21.rv List.not_mem_nil (fun h => absurd h.2 (by decide)) qt_3
  have wt_11 := wt_11.em hS129_21
  have qt_4 := hX129_21.rv List.not_mem_nil (fun h => absurd h.2 (by decide)) qt_4
  have wt_12 := wt_12.em hS129_21
  have qt_5 := hX129_21.rv List.not_mem_nil (fun h => absurd h.2 (by decide)) qt_5
  have wt_13 := wt_13.em hS129_21
  have qt_6 := hX129_21.rv List.not_mem_nil (fun h => absurd h.2 (by decide)) qt_6
  have wt_14 := wt_14.em hS129_21
  have qt_8 := hX129_21.rv List.not_mem_nil (fun h => absurd h.2 (by decide)) qt_8
  have wt_15 := wt_15.em hS129_21
  have qt_9 := hX129_21.rv List.not_mem_nil (fun h => absurd h.2 (by decide)) qt_9
  have wt_16 := wt_16.em hS129_21
  have qt_11 := hX129_21.rv List.not_mem_nil (fun h => absurd h.2 (by decide)) qt_11
  have wt_20 := And.intro (hS129_21.mem wt_20.1) (hS129_21.kd wt_20.2)
  have hTm := hTm.e hS129_21 hm5 (by omega)
  have hEX := hEX.tr (hS129_21.mono (c := t) (d := t + 40) (dle t (a := 0) (c := 0) (by decide)) (dle t (a := 1) (c := 40) (by decide)))
  refine lv_aload_n hE.1 hE.2.1 dX7_init_132 rfl (lv_at hl 1 rfl) ?_
  refine lv_aload_n hE.1 hE.2.1 dX7_init_133 rfl (lv_at hl 1 rfl) ?_
  refine rg_geti hE hH cf_X7 fl_X7_21 rfl (wt.1) (wt.2) (v := nI (tC tab)) (it_1) dX7_init_134 ?_
  refine rg_newI (ty := .int) rfl hE hH (t + 17) f17 (hkd 17 (by omega)) (Or.inr (Or.inl ⟨rfl, rfl⟩)) (by omega) (by show 0 + 1 + (tm tab) + 1 + 1 + 1 + 1 + 1 + 1 + 1 + 1 + 13 + 1 ≤ 30; omega) (by show 0 + (tm tab) + (tm tab) * (tC tab) + (tC tab) + (tC tab) + (tC tab) + (tC tab) + ((tR tab * (tR tab - 1)) / 2) + ((tR tab * (tR tab - 1)) / 2) + (tR tab) + 10 + 75000 + (tC tab) ≤ 81000; omega) dX7_init_137 (fun G137_22 H hX137_22 hln137_22 hrv137_22 hH => ?_)
  have hS137_22 := hX137_22.ex1 f17
  have wt_17 : isA G137_22 (t + 17) 13 (tC tab) := ⟨hX137_22.new (List.mem_singleton_self _), hX137_22.kd (hkd 17 (by omega)), hln137_22⟩
  have hl : lv_has ls 3 [(2, .int (nI ((tR tab * (tR tab - 1)) / 2))), (0, .ref (G137_22.ad t)), (1, .ref (G137_22.ad b))] := by rw [hS137_22.adm (wt.1), hS137_22.adm (hL.1.1)]; exact hl
  refine rg_st (st' := [.ref (G137_22.ad (t + 17)), .ref (G137_22.ad t)]) (by rw [hS137_22.adm (wt.1)]) ?_
  have hL := hL.e hS137_22 (by omega)
  have wt := And.intro (hS137_22.mem wt.1) (hS137_22.kd wt.2)
  have hfa : ∀ x, t + 17 ≤ x → x < t + 17 → x ∉ G137_22.L := fun x h1 h2 => hS137_22.nin (hfa x (Nat.le_trans (dle t (a := 17) (c := 17) (by decide)) h1) h2) (Or.inl (Nat.lt_of_lt_of_le h2 (dle t (a := 17) (c := 17) (by decide))))
  have hkd : ∀ i, i < 44 → G137_22.kd (t + i) = kTb i := by rw [EX_kd hS137_22]; exact hkd
  have qt_0 := hS137_22.rv (Or.inl (dl t (a := 0) (c := 17) (by decide))) qt_0
  have wt_1 := wt_1.em hS137_22
  have wt_1I := (fun i hi => ⟨(wt_1I i hi).1.em hS137_22, hS137_22.rv (by omega) (wt_1I i hi).2⟩ : ∀ i, i < tm tab → isA _ (t + 2 + i) 13 (tC tab) ∧ GW.rv _ (t + 1) i = some (t + 2 + i))
  have qt_2 := hS137_22.rv (Or.inl (dl t (a := 0) (c := 17) (by decide))) qt_2
  have wt_10 := wt_10.em hS137_22
  have qt_3 := hS137_22.rv (Or.inl (dl t (a := 0) (c := 17) (by decide))) qt_3
  have wt_11 := wt_11.em hS137_22
  have qt_4 := hS137_22.rv (Or.inl (dl t (a := 0) (c := 17) (by decide))) qt_4
  have wt_12 := wt_12.em hS137_22
  have qt_5 := hS137_22.rv (Or.inl (dl t (a := 0) (c := 17) (by decide))) qt_5
  have wt_13 := wt_13.em hS137_22
  have qt_6 := hS137_22.rv (Or.inl (dl t (a := 0) (c := 17) (by decide))) qt_6
  have wt_14 := wt_14.em hS137_22
  have qt_8 := hS137_22.rv (Or.inl (dl t (a := 0) (c := 17) (by decide))) qt_8
  have wt_15 := wt_15.em hS137_22
  have qt_9 := hS137_22.rv (Or.inl (dl t (a := 0) (c := 17) (by decide))) qt_9
  have wt_16 := wt_16.em hS137_22
  have qt_11 := hS137_22.rv (Or.inl (dl t (a := 0) (c := 17) (by decide))) qt_11
  have wt_20 := And.intro (hS137_22.mem wt_20.1) (hS137_22.kd wt_20.2)
  have hTm := hTm.e hS137_22 hm5 (by omega)
  have qt_13 := hS137_22.rv (Or.inl (dl t (a := 0) (c := 17) (by decide))) qt_13
  have hEX := hEX.tr (hS137_22.mono (c := t) (d := t + 40) (dle t (a := 0) (c := 17) (by decide)) (dle t (a := 18) (c := 40) (by decide)))
  have hU137_22 : Fr iv126 (clr iv126 (t + 17) 0) (fun b0 _ => b0 = t + 17) := Fr.clr Fr.rf (fun _ => rfl)
  have hJ137_22 : FrJ jv126 (clr jv126 (t + 17) 0) (fun b0 _ => b0 = t + 17) := FrJ.clr FrJ.rf (fun _ => rfl)
  have hLy := hLy.fr2 hU137_22 hJ137_22 (fun lb j _ _ => by omega) (fun lb j _ _ => by omega)
  have zt7 := (hU137_22 _ _ (dn t (a := 0) (c := 17) (by decide))).trans zt7
  have zt10 := (hU137_22 _ _ (dn t (a := 0) (c := 17) (by decide))).trans zt10
  have zt12 := (hU137_22 _ _ (dn t (a := 0) (c := 17) (by decide))).trans zt12
  have zt16 := (hU137_22 _ _ (dn t (a := 0) (c := 17) (by decide))).trans zt16
  have it_1 := (hU137_22 _ _ (dn t (a := 0) (c := 17) (by decide))).trans it_1
  have hTs := (fun (i : Nat) (hi : i < tm tab) => And.intro ((hU137_22 _ _ (by omega)).trans (hTs i hi).1) ((hU137_22 _ _ (by omega)).trans (hTs i hi).2))
  have hT2 := (hU137_22 _ _ (dn t (a := 20) (c := 17) (by decide))).trans hT2
  have hz10 := (fun (j : Nat) => (hU137_22 _ _ (by omega)).trans (hz10 j))
  have hFr := hFr.tr (hU137_22.mono (P' := fun lb _ => t ≤ lb ∧ lb < t + 40) (fun lb j h => by rw [h]; exact ⟨dle t (a := 0) (c := 17) (by decide), dl t (a := 17) (c := 40) (by decide)⟩))
  have hFj := hFj.tr (hJ137_22.mono (P' := fun lb _ => t ≤ lb ∧ lb < t + 40) (fun lb j h => by rw [h]; exact ⟨dle t (a := 0) (c := 17) (by decide), dl t (a := 17) (c := 40) (by decide)⟩))
  generalize clr iv126 (t + 17) 0 = iv137_22 at hH hFr hU137_22 hLy zt7 zt10 zt12 zt16 it_1 hTs hT2 hz10
  generalize clr jv126 (t + 17) 0 = jv137_22 at hH hFj hJ137_22 hLy hTs hz10
  refine rg_putrF hE hH cf_X7 fl_X7_71 rfl fn_X7_14 fo_X7_14 hnm (wt.1) (wt.2) (v := t + 17) (wt_17.1) dX7_init_139 (fun H locs hH => ?_)
  have hX139_23 := GX.set (G := G137_22) (lb := t) (k := 14) (v := some (t + 17))
  have hS139_23 := EX.set (G := G137_22) (lb := t) (k := 14) (v := some (t + 17))
  have qt_14 := setR_s (G := G137_22) (lb := t) (k := 14) (v := some (t + 17))
  generalize (G137_22.setR (up2 G137_22.rv t 14 (some (t + 17)))) = G139_23 at hH hX139_23 hS139_23 qt_14
  have hl : lv_has ls 3 [(2, .int (nI ((tR tab * (tR tab - 1)) / 2))), (0, .ref (G139_23.ad t)), (1, .ref (G139_23.ad b))] := by rw [hS139_23.adm (wt.1), hS139_23.adm (hL.1.1)]; exact hl
  have hL := hL.e hS139_23 (by omega)
  have wt := And.intro (hS139_23.mem wt.1) (hS139_23.kd wt.2)
  have hfa : ∀ x, t + 17 ≤ x → x < t + 17 → x ∉ G139_23.L := fun x h1 h2 => hS139_23.nin (hfa x (Nat.le_trans (dle t (a := 17) (c := 17) (by decide)) h1) h2) (Or.inr (Nat.le_trans (dle t (a := 1) (c := 17) (by decide)) h1))
  have hkd : ∀ i, i < 44 → G139_23.kd (t + i) = kTb i := by rw [EX_kd hS139_23]; exact hkd
  have qt_0 := hX139_23.rv List.not_mem_nil (fun h => absurd h.2 (by decide)) qt_0
  have wt_1 := wt_1.em hS139_23
  have wt_1I := (fun i hi => ⟨(wt_1I i hi).1.em hS139_23, hS139_23.rv (by omega) (wt_1I i hi).2⟩ : ∀ i, i < tm tab → isA _ (t + 2 + i) 13 (tC tab) ∧ GW.rv _ (t + 1) i = some (t + 2 + i))
  have qt_2 := hX139_23.rv List.not_mem_nil (fun h => absurd h.2 (by decide)) qt_2
  have wt_10 := wt_10.em hS139_23
  have qt_3 := hX139_23.rv List.not_mem_nil (fun h => absurd h.2 (by decide)) qt_3
  have wt_11 := wt_11.em hS139_23
  have qt_4 := hX139_23.rv List.not_mem_nil (fun h => absurd h.2 (by decide)) qt_4
  have wt_12 := wt_12.em hS139_23
  have qt_5 := hX139_23.rv List.not_mem_nil (fun h => absurd h.2 (by decide)) qt_5
  have wt_13 := wt_13.em hS139_23
  have qt_6 := hX139_23.rv List.not_mem_nil (fun h => absurd h.2 (by decide)) qt_6
  have wt_14 := wt_14.em hS139_23
  have qt_8 := hX139_23.rv List.not_mem_nil (fun h => absurd h.2 (by decide)) qt_8
  have wt_15 := wt_15.em hS139_23
  have qt_9 := hX139_23.rv List.not_mem_nil (fun h => absurd h.2 (by decide)) qt_9
  have wt_16 := wt_16.em hS139_23
  have qt_11 := hX139_23.rv List.not_mem_nil (fun h => absurd h.2 (by decide)) qt_11
  have wt_20 := And.intro (hS139_23.mem wt_20.1) (hS139_23.kd wt_20.2)
  have hTm := hTm.e hS139_23 hm5 (by omega)
  have qt_13 := hX139_23.rv List.not_mem_nil (fun h => absurd h.2 (by decide)) qt_13
  have wt_17 := wt_17.em hS139_23
  have hEX := hEX.tr (hS139_23.mono (c := t) (d := t + 40) (dle t (a := 0) (c := 0) (by decide)) (dle t (a := 1) (c := 40) (by decide)))
  refine W.widen (k := 30) (n := 81000) (by show 0 + 1 + (tm tab) + 1 + 1 + 1 + 1 + 1 + 1 + 1 + 1 + 13 + 1 ≤ 30; omega) (by show 0 + (tm tab) + (tm tab) * (tC tab) + (tC tab) + (tC tab) + (tC tab) + (tC tab) + ((tR tab * (tR tab - 1)) / 2) + ((tR tab * (tR tab - 1)) / 2) + (tR tab) + 10 + 75000 + (tC tab) ≤ 81000; omega) ?_
  exact rg_vret hE hr hlk hH ⟨hEX, ⟨wt, hL, ⟨wt_1, fun i hi => wt_1I i hi⟩, wt_10, wt_11, wt_12, wt_13, wt_14, wt_15, wt_16, wt_17, hTm, qt_0, qt_2, qt_3, qt_4, qt_5, qt_6, qt_8, qt_9, qt_11, qt_13, qt_14⟩, it_1, ⟨zt7, zt10, zt12, zt16⟩, hTs, hT2, hz10, hFr, hFj⟩ dX7_init_142
