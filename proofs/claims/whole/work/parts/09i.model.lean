theorem kdF_z {i : Nat} (h : i < 111) : kdF i = kd0 i := by
  by_cases h5 : i = 50
  · subst h5; rfl
  · exact kdF_0 h h5
theorem isX0.e {G G' : GW} {a b : Nat} (h : isX0 G) (hX : EX G G' a b) (hd : 111 ≤ a ∨ b ≤ 100) : isX0 G' :=
  ⟨⟨hX.mem h.1.1, hX.kd h.1.2⟩, h.2.1.e hX (by omega), h.2.2.1.em hX, h.2.2.2.1.em hX, h.2.2.2.2.1.e hX (by omega), hX.rv (by omega) h.2.2.2.2.2.1, hX.rv (by omega) h.2.2.2.2.2.2.1, hX.rv (by omega) h.2.2.2.2.2.2.2.1, hX.rv (by omega) h.2.2.2.2.2.2.2.2.1, hX.rv (by omega) h.2.2.2.2.2.2.2.2.2⟩
set_option maxRecDepth 100000 in
set_option maxHeartbeats 4000000 in
theorem whole_start {p : Program} {e : Env} {s : State} {m : MethodId} {below : List Frame} {meth : Method} {c : Code} (l : Launch) (hlt : l.stackTraces = false) {b L : Nat} {xs : Nat → Int32} (hL : L ≤ 3072) (C0 : lw_At p s m meth c b L xs) : W p l e room_1 s m #[Value.ref b] below meth c s.heap [] 0 0 (lw_Z below #[Value.ref b] s) (entryFrame m ([Value.ref b] : List Value).toArray 7) := by
  obtain ⟨hx, hb, hr, hml, hown, hts, hX, hbl, hlocks, hgv⟩ := C0
  obtain ⟨D, cy, z, hK, hZ⟩ := st_env hts hgv
  have hE : EN p c s m #[Value.ref b] code RL D cy z (fun q : Nat => s.heap.size ≤ q) := ⟨hx, hb, hown, fun w hw => hts w (bw_in hw), hK, hZ⟩
  have hLE : lwE p l s m meth c D cy z b L xs := ⟨hE, hml, hX, hbl, hlt, hL, hr, hlocks⟩
  have hl := lv_entry ([.ref b]) (n := 7) (Nat.le_of_ble_eq_true rfl)
  rw [lg_entry_eq]
  generalize (lg_sl ([.ref b]) ++ List.replicate (7 - (lg_sl ([.ref b])).length) Slot.unset).toArray = ls at hl ⊢
  have hl : lv_has ls 7 [(0, .ref b)] := hl
  obtain ⟨G, hG⟩ : ∃ G : GW, G = (D, cy, [], kdF, fun _ => 0, fun _ _ => none, fun _ => 0) := ⟨_, rfl⟩
  have hL0 : G.L = [] := by rw [hG]; rfl
  have hkF : G.kd = kdF := by rw [hG]; rfl
  obtain ⟨iv, hiv⟩ : ∃ iv : IV, iv = fun _ _ => 0 := ⟨_, rfl⟩
  obtain ⟨jv, hjv⟩ : ∃ jv : JV, jv = fun _ _ => 0 := ⟨_, rfl⟩
  have hH : HS D cy G (fun q : Nat => s.heap.size ≤ q) s.heap iv jv s.heap [] := by
    subst hG
    exact ⟨rfl, rfl, fun k q h => by simp [wl, GW.L] at h, va_S.rf, ⟨List.nodup_nil, fun lb h => absurd h List.not_mem_nil, fun b h => absurd h List.not_mem_nil⟩, fun lb h => absurd h List.not_mem_nil, fun q h => h⟩
  have hB0 : ∀ lb ∈ G.L, lb = 100 := fun lb h => absurd h (by rw [hL0]; exact List.not_mem_nil)
  have f100 : 100 ∉ G.L := by rw [hL0]; exact List.not_mem_nil
  have hfX : ∀ x, 101 ≤ x → x < 20004 → x ∉ G.L := fun x _ _ => by rw [hL0]; exact List.not_mem_nil
  have f0 : 0 ∉ G.L := by rw [hL0]; exact List.not_mem_nil
  have hfM : ∀ x, 1 ≤ x → x < 43 → x ∉ G.L := fun x _ _ => by rw [hL0]; exact List.not_mem_nil
  have f50 : 50 ∉ G.L := by rw [hL0]; exact List.not_mem_nil
  have hEX : EX G G 0 100000 := EX.rf
  have hFr : Fr iv iv (fun lb _ => 0 ≤ lb ∧ lb < 100000) := Fr.rf
  have hFj : FrJ jv jv (fun lb _ => 0 ≤ lb ∧ lb < 100000) := FrJ.rf
  refine rg_newO (ci := 10) hE hH (100) f100 (by rw [hkF]; rfl) cf_X10 ⟨RX10, TX10, rfl, (b1 24 rfl rfl), (b1 25 rfl rfl), (b1 1 rfl rfl)⟩ (by show 0 + 1 ≤ 601024; omega) (by show 0 + 11 ≤ 7293034; omega) dL_law_0 (fun G0_1 H hX0_1 hln0_1 hrv0_1 hH => ?_)
  have hS0_1 := hX0_1.ex1 f100
  have w100 : (100) ∈ G0_1.L ∧ G0_1.kd (100) = 10 := ⟨hX0_1.new (List.mem_singleton_self _), hX0_1.kd (by rw [hkF]; rfl)⟩
  have hfX : ∀ x, 101 ≤ x → x < 20004 → x ∉ G0_1.L := fun x h1 h2 => hS0_1.nin (hfX x (Nat.le_trans (by decide) h1) h2) (Or.inr (Nat.le_trans (by decide) h1))
  have f0 := hS0_1.nin f0 (Or.inl (by decide))
  have hfM : ∀ x, 1 ≤ x → x < 43 → x ∉ G0_1.L := fun x h1 h2 => hS0_1.nin (hfM x (Nat.le_trans (by decide) h1) h2) (Or.inl (Nat.lt_of_lt_of_le h2 (by decide)))
  have f50 := hS0_1.nin f50 (Or.inl (by decide))
  have hkF : G0_1.kd = kdF := by rw [EX_kd hS0_1]; exact hkF
  have hB0 := (fun (lb : Nat) hm => (EX.cov hS0_1 hm).elim (hB0 lb) (fun h => by omega))
  have hEX := hEX.tr (hS0_1.mono (c := 0) (d := 100000) (by decide) (by decide))
  have hU0_1 : Fr iv (clr iv (100) 0) (fun b0 _ => b0 = 100) := Fr.clr Fr.rf (fun _ => rfl)
  have hJ0_1 : FrJ jv (clr jv (100) 0) (fun b0 _ => b0 = 100) := FrJ.clr FrJ.rf (fun _ => rfl)
  have hFr := hFr.tr (hU0_1.mono (P' := fun lb _ => 0 ≤ lb ∧ lb < 100000) (fun lb j h => by rw [h]; exact ⟨by decide, by decide⟩))
  have hFj := hFj.tr (hJ0_1.mono (P' := fun lb _ => 0 ≤ lb ∧ lb < 100000) (fun lb j h => by rw [h]; exact ⟨by decide, by decide⟩))
  generalize clr iv (100) 0 = iv0_1 at hH hFr hU0_1 
  generalize clr jv (100) 0 = jv0_1 at hH hFj hJ0_1 
  refine lv_dup hE.1 hE.2.1 dL_law_3 rfl ?_
  refine rg_IV (As := []) (rest := [.ref (G0_1.ad 100)]) hE hml hH mc_L_68 (c_X_init l z G0_1 iv0_1 jv0_1 w100 hfX (fun i hi => by rw [hkF]; exact kdF_z hi) (fun i hi => by rw [hkF]; exact kdF_L (k := 0) (by decide) hi) (fun i hi => by rw [hkF]; exact kdF_W (k := 0) hi)) rfl ⟨Nat.le_of_ble_eq_true rfl, Nat.le_of_ble_eq_true rfl⟩ rfl hl.1 (by simp [Value.category]) dL_law_4 ⟨by show 0 + 1 + 34 ≤ 601024; omega, by show 0 + 11 + 6700 ≤ 7293034; omega⟩ (fun G4 iv4 jv4 H locs hp4 hH => ?_)
  obtain ⟨hS4_2, hX0, hLa, hWh, q100_7, q100_8, ⟨i100_1, i100_4, i100_6, i100_9, hOu⟩, hCv, hU4_2, hJ4_2⟩ := hp4
  refine rg_st (st' := [.ref (G4.ad 100)]) (by rw [hS4_2.adm (w100.1)]) ?_
  have f0 := hS4_2.nin f0 (Or.inl (by decide))
  have hfM : ∀ x, 1 ≤ x → x < 43 → x ∉ G4.L := fun x h1 h2 => hS4_2.nin (hfM x (Nat.le_trans (by decide) h1) h2) (Or.inl (Nat.lt_of_lt_of_le h2 (by decide)))
  have f50 := hS4_2.nin f50 (Or.inl (by decide))
  have hkF : G4.kd = kdF := by rw [EX_kd hS4_2]; exact hkF
  have w100 := And.intro (hS4_2.mem w100.1) (hS4_2.kd w100.2)
  have hEX := hEX.tr (hS4_2.mono (c := 0) (d := 100000) (by decide) (by decide))
  have hBd : ∀ lb ∈ G4.L, (100 ≤ lb ∧ lb < 111) ∨ (10000 ≤ lb ∧ lb < 10040) ∨ (20000 ≤ lb ∧ lb < 20004) := fun lb hm => (hCv lb hm).elim (fun h => by have := hB0 lb h; omega) id
  have hFr := hFr.tr (hU4_2.mono (P' := fun lb _ => 0 ≤ lb ∧ lb < 100000) (fun lb j h => by omega))
  have hFj := hFj.tr (hJ4_2.mono (P' := fun lb _ => 0 ≤ lb ∧ lb < 100000) (fun lb j h => by omega))
  refine lv_astore_n (lv' := [(1, .ref (G4.ad 100)), (0, .ref b)]) hE.1 hE.2.1 dL_law_7 rfl hl (by decide) rfl (fun ls hl => ?_)
  have hBd : ∀ lb ∈ G4.L, lb < 111 ∨ (10000 ≤ lb ∧ lb < 10040) ∨ (20000 ≤ lb ∧ lb < 20004) := fun lb hm => by have := hBd lb hm; omega
  refine rg_newO (ci := 11) hE hH (0) f0 (by rw [hkF]; rfl) cf_X11 ⟨RX11, TX11, rfl, (b5 13 rfl rfl), (b5 14 rfl rfl), (b1 9 rfl rfl)⟩ (by show 0 + 1 + 34 + 1 ≤ 601024; omega) (by show 0 + 11 + 6700 + 43 ≤ 7293034; omega) dL_law_8 (fun G8_3 H hX8_3 hln8_3 hrv8_3 hH => ?_)
  have hS8_3 := hX8_3.ex1 f0
  have w0 : (0) ∈ G8_3.L ∧ G8_3.kd (0) = 11 := ⟨hX8_3.new (List.mem_singleton_self _), hX8_3.kd (by rw [hkF]; rfl)⟩
  have hl : lv_has ls 7 [(1, .ref (G8_3.ad 100)), (0, .ref b)] := by rw [hS8_3.adm (w100.1)]; exact hl
  have hfM : ∀ x, 1 ≤ x → x < 43 → x ∉ G8_3.L := fun x h1 h2 => hS8_3.nin (hfM x (Nat.le_trans (by decide) h1) h2) (Or.inr (Nat.le_trans (by decide) h1))
  have f50 := hS8_3.nin f50 (Or.inr (by decide))
  have hkF : G8_3.kd = kdF := by rw [EX_kd hS8_3]; exact hkF
  have w100 := And.intro (hS8_3.mem w100.1) (hS8_3.kd w100.2)
  have hX0 := hX0.e hS8_3 (by decide)
  have hLa := hLa.e hS8_3 (by decide)
  have hWh := hWh.e hS8_3 (by decide)
  have q100_7 := hS8_3.rv (Or.inr (by decide)) q100_7
  have q100_8 := hS8_3.rv (Or.inr (by decide)) q100_8
  have hBd := (fun (lb : Nat) hm => (EX.cov hS8_3 hm).elim (hBd lb) (fun h => by omega))
  have hEX := hEX.tr (hS8_3.mono (c := 0) (d := 100000) (by decide) (by decide))
  have hU8_3 : Fr iv4 (clr iv4 (0) 0) (fun b0 _ => b0 = 0) := Fr.clr Fr.rf (fun _ => rfl)
  have hJ8_3 : FrJ jv4 (clr jv4 (0) 0) (fun b0 _ => b0 = 0) := FrJ.clr FrJ.rf (fun _ => rfl)
  have i100_1 := (hU8_3 _ _ (by decide)).trans i100_1
  have i100_4 := (hU8_3 _ _ (by decide)).trans i100_4
  have i100_6 := (hU8_3 _ _ (by decide)).trans i100_6
  have i100_9 := (hU8_3 _ _ (by decide)).trans i100_9
  have hOu := hOu.fr hU8_3 (fun lb j _ _ => by omega)
  have hFr := hFr.tr (hU8_3.mono (P' := fun lb _ => 0 ≤ lb ∧ lb < 100000) (fun lb j h => by rw [h]; exact ⟨by decide, by decide⟩))
  have hFj := hFj.tr (hJ8_3.mono (P' := fun lb _ => 0 ≤ lb ∧ lb < 100000) (fun lb j h => by rw [h]; exact ⟨by decide, by decide⟩))
  have hz0 : ∀ j, (clr iv4 (0) 0) (0) j = 0 := fun j => clr_s
  generalize clr iv4 (0) 0 = iv8_3 at hH hFr hU8_3 i100_1 i100_4 i100_6 i100_9 hOu hz0
  generalize clr jv4 (0) 0 = jv8_3 at hH hFj hJ8_3 hOu
  refine lv_dup hE.1 hE.2.1 dL_law_11 rfl ?_
  refine rg_IV (As := []) (rest := [.ref (G8_3.ad 0)]) hE hml hH mc_L_71 (c_M_init l z G8_3 iv8_3 jv8_3 w0 hfM (fun i hi => by rw [hkF]; exact kdF_z hi) hz0) rfl ⟨Nat.le_of_ble_eq_true rfl, Nat.le_of_ble_eq_true rfl⟩ rfl hl.1 (by simp [Value.category]) dL_law_12 ⟨by show 0 + 1 + 34 + 1 + 27 ≤ 601024; omega, by show 0 + 11 + 6700 + 43 + 40000 ≤ 7293034; omega⟩ (fun G12 iv12 jv12 H locs hp12 hH => ?_)
  obtain ⟨hS12_4, hM, hMS, hU12_4, hJ12_4⟩ := hp12
  have hBd : ∀ lb ∈ G8_3.L, lb < 111 ∨ (10000 ≤ lb ∧ lb < 10040) ∨ (20000 ≤ lb ∧ lb < 20004) := fun lb hm => by have := hBd lb hm; omega
  have hl : lv_has ls 7 [(1, .ref (G12.ad 100)), (0, .ref b)] := by rw [hS12_4.adm (w100.1)]; exact hl
  refine rg_st (st' := [.ref (G12.ad 0)]) (by rw [hS12_4.adm (w0.1)]) ?_
  have f50 := hS12_4.nin f50 (Or.inr (by decide))
  have hkF : G12.kd = kdF := by rw [EX_kd hS12_4]; exact hkF
  have w100 := And.intro (hS12_4.mem w100.1) (hS12_4.kd w100.2)
  have hX0 := hX0.e hS12_4 (by decide)
  have hLa := hLa.e hS12_4 (by decide)
  have hWh := hWh.e hS12_4 (by decide)
  have q100_7 := hS12_4.rv (Or.inr (by decide)) q100_7
  have q100_8 := hS12_4.rv (Or.inr (by decide)) q100_8
  have hBd := (fun (lb : Nat) hm => (EX.cov hS12_4 hm).elim (hBd lb) (fun h => by omega))
  have w0 := And.intro (hS12_4.mem w0.1) (hS12_4.kd w0.2)
  have hEX := hEX.tr (hS12_4.mono (c := 0) (d := 100000) (by decide) (by decide))
  have i100_1 := (hU12_4 _ _ (by omega)).trans i100_1
  have i100_4 := (hU12_4 _ _ (by omega)).trans i100_4
  have i100_6 := (hU12_4 _ _ (by omega)).trans i100_6
  have i100_9 := (hU12_4 _ _ (by omega)).trans i100_9
  have hOu := hOu.fr hU12_4 (fun lb j _ _ => by omega)
  have hFr := hFr.tr (hU12_4.mono (P' := fun lb _ => 0 ≤ lb ∧ lb < 100000) (fun lb j h => by omega))
  have hFj := hFj.tr (hJ12_4.mono (P' := fun lb _ => 0 ≤ lb ∧ lb < 100000) (fun lb j h => by omega))
  refine lv_astore_n (lv' := [(2, .ref (G12.ad 0)), (1, .ref (G12.ad 100)), (0, .ref b)]) hE.1 hE.2.1 dL_law_15 rfl hl (by decide) rfl (fun ls hl => ?_)
  refine lv_iconst (v := nI 1) hE.1 hE.2.1 dL_law_16 (by decide) ?_
  refine rg_newJ hE hH (50) f50 (by rw [hkF]; rfl) (by omega) (by show 0 + 1 + 34 + 1 + 27 + 1 ≤ 601024; omega) (by show 0 + 11 + 6700 + 43 + 40000 + 1 ≤ 7293034; omega) dL_law_17 (fun G17_5 H hX17_5 hln17_5 hrv17_5 hH => ?_)
  have hS17_5 := hX17_5.ex1 f50
  have w50 : isA G17_5 (50) 14 1 := ⟨hX17_5.new (List.mem_singleton_self _), hX17_5.kd (by rw [hkF]; rfl), hln17_5⟩
  have hl : lv_has ls 7 [(2, .ref (G17_5.ad 0)), (1, .ref (G17_5.ad 100)), (0, .ref b)] := by rw [hS17_5.adm (w0.1), hS17_5.adm (w100.1)]; exact hl
  have hkF : G17_5.kd = kdF := by rw [EX_kd hS17_5]; exact hkF
  have w100 := And.intro (hS17_5.mem w100.1) (hS17_5.kd w100.2)
  have hX0 := hX0.e hS17_5 (by decide)
  have hLa := hLa.e hS17_5 (by decide)
  have hWh := hWh.e hS17_5 (by decide)
  have q100_7 := hS17_5.rv (Or.inr (by decide)) q100_7
  have q100_8 := hS17_5.rv (Or.inr (by decide)) q100_8
  have hBd := (fun (lb : Nat) hm => (EX.cov hS17_5 hm).elim (hBd lb) (fun h => by omega))
  have w0 := And.intro (hS17_5.mem w0.1) (hS17_5.kd w0.2)
  have hM := hM.e hS17_5 (by decide)
  have hEX := hEX.tr (hS17_5.mono (c := 0) (d := 100000) (by decide) (by decide))
  have hU17_5 : Fr iv12 (clr iv12 (50) 0) (fun b0 _ => b0 = 50) := Fr.clr Fr.rf (fun _ => rfl)
  have hJ17_5 : FrJ jv12 (clr jv12 (50) 0) (fun b0 _ => b0 = 50) := FrJ.clr FrJ.rf (fun _ => rfl)
  have i100_1 := (hU17_5 _ _ (by decide)).trans i100_1
  have i100_4 := (hU17_5 _ _ (by decide)).trans i100_4
  have i100_6 := (hU17_5 _ _ (by decide)).trans i100_6
  have i100_9 := (hU17_5 _ _ (by decide)).trans i100_9
  have hOu := hOu.fr hU17_5 (fun lb j _ _ => by omega)
  have hMS := hMS.fr hU17_5 (fun lb j h1 h2 => by omega)
  have hFr := hFr.tr (hU17_5.mono (P' := fun lb _ => 0 ≤ lb ∧ lb < 100000) (fun lb j h => by rw [h]; exact ⟨by decide, by decide⟩))
  have hFj := hFj.tr (hJ17_5.mono (P' := fun lb _ => 0 ≤ lb ∧ lb < 100000) (fun lb j h => by rw [h]; exact ⟨by decide, by decide⟩))
  generalize clr iv12 (50) 0 = iv17_5 at hH hFr hU17_5 i100_1 i100_4 i100_6 i100_9 hOu hMS
  generalize clr jv12 (50) 0 = jv17_5 at hH hFj hJ17_5 hOu hMS
  refine lv_astore_n (lv' := [(3, .ref (G17_5.ad 50)), (2, .ref (G17_5.ad 0)), (1, .ref (G17_5.ad 100)), (0, .ref b)]) hE.1 hE.2.1 dL_law_19 rfl hl (by decide) rfl (fun ls hl => ?_)
  refine lv_iconst (v := nI 0) hE.1 hE.2.1 dL_law_20 (by decide) ?_
  refine lv_istore (lv' := [(4, .int (nI 0)), (3, .ref (G17_5.ad 50)), (2, .ref (G17_5.ad 0)), (1, .ref (G17_5.ad 100)), (0, .ref b)]) hE.1 hE.2.1 dL_law_21 hl (by decide) rfl (fun ls hl => ?_)
  refine W.widen (k := 200) (n := 60000) (by show 0 + 1 + 34 + 1 + 27 + 1 ≤ 200; omega) (by show 0 + 11 + 6700 + 43 + 40000 + 1 ≤ 60000; omega) ?_
  exact lw_loop hLE (L + 6) 0 G17_5 iv17_5 jv17_5 a00 H _ 200 60000 _ (by omega) (by omega) hH ⟨hM, hMS, ⟨hX0, ⟨hLa, hWh, q100_7, q100_8⟩, ⟨i100_1, Nat.zero_le _, fun k hk => absurd hk (Nat.not_lt_zero k), fun k hk => absurd hk (Nat.not_lt_zero k)⟩, i100_9, ⟨i100_4, Nat.zero_le _, fun k hk => absurd hk (Nat.not_lt_zero k)⟩, ⟨i100_6, Nat.zero_le _, fun k hk => absurd hk (Nat.not_lt_zero k)⟩, hOu, fun lb hm => (by have h9 := hBd lb hm; show lb < 1000 ∨ (10000 ≤ lb ∧ lb < 10000 + 1000 * 0 + 100) ∨ (20000 ≤ lb ∧ lb < 20000 + 1000 * 0 + 100); omega), hkF⟩, w50⟩ ⟨(by show 200 ≤ 200 + 4 * 0 + 60 * 0 + 10 * 0; decide), (by show 60000 ≤ 60000 + 24 * 0 + 83000 * 0 + 700 * 0; decide)⟩ (lv_sub hl [4, 3, 2, 1, 0] rfl)
