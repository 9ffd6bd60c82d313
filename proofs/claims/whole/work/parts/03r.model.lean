def RU (iv : IV) (T : Nat) (l : List (Nat × Nat)) : Prop := iv 24 T = nI l.length ∧ ∀ k, k < l.length → iv 25 (400 * T + k) = nI (l.getD k (0, 0)).1 ∧ iv 26 (400 * T + k) = nI (l.getD k (0, 0)).2
def OF (iv : IV) (T : Nat) (l : List Nat) : Prop := iv 27 T = nI l.length ∧ ∀ k, k < l.length → iv 28 (400 * T + k) = nI (l.getD k 0)
/-- the reference lays the RULE of a TABLE out -/
def WK (iv0 iv : IV) (T : Nat) (tab : Tab) : Prop := FT iv T tab ∧ SRT iv tab ∧ iv 0 42 = nI (tC tab) ∧ iv 23 T = bI true ∧ Fr iv0 iv (pLY T)
theorem WK.fr {iv0 iv iv' : IV} {T : Nat} {tab : Tab} {P : Nat → Nat → Prop} (h : WK iv0 iv T tab) (hF : Fr iv iv' P) (hP : ∀ lb j, P lb j → (lb = 37 ∨ lb = 41 ∨ ((lb = 24 ∨ lb = 27) ∧ j = T) ∨ ((lb = 25 ∨ lb = 26 ∨ lb = 28) ∧ 400 * T ≤ j ∧ j < 400 * T + 400))) : WK iv0 iv' T tab := by
  have np : ∀ lb j, ¬ (lb = 37 ∨ lb = 41 ∨ ((lb = 24 ∨ lb = 27) ∧ j = T) ∨ ((lb = 25 ∨ lb = 26 ∨ lb = 28) ∧ 400 * T ≤ j ∧ j < 400 * T + 400)) → iv' lb j = iv lb j := fun lb j h => hF lb j (fun hp => h (hP lb j hp))
  refine ⟨FT.fr h.1 hF (fun lb j hp => by have := hP lb j hp; omega), ⟨fun c hc => (np 40 _ (by omega)).trans (h.2.1.1 c hc), fun c i hc hi => (np 38 _ (by omega)).trans (h.2.1.2.1 c i hc hi), fun t ht => (np 39 _ (by omega)).trans (h.2.1.2.2 t ht)⟩, (np 0 42 (by omega)).trans h.2.2.1, (np 23 T (by omega)).trans h.2.2.2.1, h.2.2.2.2.tr (hF.mono (fun lb j hp => by have := hP lb j hp; simp only [pLY]; omega))⟩
theorem RU.fr {iv iv' : IV} {T : Nat} {l : List (Nat × Nat)} {P : Nat → Nat → Prop} (h : RU iv T l) (hF : Fr iv iv' P) (hP : ∀ lb j, lb = 24 ∨ lb = 25 ∨ lb = 26 → ¬ P lb j) : RU iv' T l :=
  ⟨(hF 24 T (hP _ _ (by decide))).trans h.1, fun k hk => ⟨(hF 25 _ (hP _ _ (by decide))).trans (h.2 k hk).1, (hF 26 _ (hP _ _ (by decide))).trans (h.2 k hk).2⟩⟩
theorem OF.fr {iv iv' : IV} {T : Nat} {l : List Nat} {P : Nat → Nat → Prop} (h : OF iv T l) (hF : Fr iv iv' P) (hP : ∀ lb j, lb = 27 ∨ lb = 28 → ¬ P lb j) : OF iv' T l :=
  ⟨(hF 27 T (hP _ _ (by decide))).trans h.1, fun k hk => (hF 28 _ (hP _ _ (by decide))).trans (h.2 k hk)⟩
theorem RU.add {iv : IV} {T : Nat} {l : List (Nat × Nat)} {a b : Nat} (h : RU iv T l) : RU (up2 (up2 (up2 iv 25 (400 * T + l.length) (nI a)) 26 (400 * T + l.length) (nI b)) 24 T (nI (l.length + 1))) T (l ++ [(a, b)]) := by
  refine ⟨by rw [List.length_append]; exact up2_s, fun k hk => ?_⟩
  have e25 : (up2 (up2 (up2 iv 25 (400 * T + l.length) (nI a)) 26 (400 * T + l.length) (nI b)) 24 T (nI (l.length + 1))) 25 (400 * T + k) = up2 iv 25 (400 * T + l.length) (nI a) 25 (400 * T + k) := by rw [up2_l (by decide), up2_l (by decide)]
  have e26 : (up2 (up2 (up2 iv 25 (400 * T + l.length) (nI a)) 26 (400 * T + l.length) (nI b)) 24 T (nI (l.length + 1))) 26 (400 * T + k) = up2 (up2 iv 25 (400 * T + l.length) (nI a)) 26 (400 * T + l.length) (nI b) 26 (400 * T + k) := by rw [up2_l (by decide)]
  rw [e25, e26]
  by_cases hkl : k < l.length
  · have e1 : up2 iv 25 (400 * T + l.length) (nI a) 25 (400 * T + k) = iv 25 (400 * T + k) := up2_k (by omega)
    have e2 : up2 (up2 iv 25 (400 * T + l.length) (nI a)) 26 (400 * T + l.length) (nI b) 26 (400 * T + k) = iv 26 (400 * T + k) := by rw [up2_k (by omega), up2_l (by decide)]
    rw [getD_app_lt hkl, e1, e2]
    exact h.2 k hkl
  · have hk2 : k = l.length := by simp at hk; omega
    subst hk2
    rw [getD_app_eq, up2_s, up2_s]
    exact ⟨rfl, rfl⟩
theorem OF.add {iv : IV} {T : Nat} {l : List Nat} {a : Nat} (h : OF iv T l) : OF (up2 (up2 iv 28 (400 * T + l.length) (nI a)) 27 T (nI (l.length + 1))) T (l ++ [a]) := by
  refine ⟨by rw [List.length_append]; exact up2_s, fun k hk => ?_⟩
  rw [up2_l (by decide)]
  by_cases hkl : k < l.length
  · rw [getD_app_lt hkl, up2_k (by omega)]
    exact h.2 k hkl
  · have hk2 : k = l.length := by simp at hk; omega
    subst hk2
    rw [getD_app_eq, up2_s]
def hnx (tab : Tab) (of : Nat) (held : Nat → Bool) : Nat → Bool := match bst tab of held with
  | none => held
  | some q => hup tab q held
set_option maxRecDepth 100000 in
set_option maxHeartbeats 4000000 in
theorem c_lay (l : Launch) (z : ZK) (G : GW) (hG : isM G) (iv : IV) (jv : JV) (T : Nat) (hT : T < 6) (tab : Tab) (hFT : FT iv T tab) (hLD : LD iv T tab) : cV l z yX11_lay cX11_lay 5 none 3 79 0 0 [.ref (G.ad 0), .int (nI T)] G iv jv (fun G' iv' jv' => G = G' ∧ jv = jv' ∧ LY iv' T tab ∧ iv' 23 T = bI true ∧ Fr iv iv' (pLY T)) := by
  intro sz
  refine rg_entry rfl (Nat.le_of_ble_eq_true rfl) ?_
  intro pq eq sq mq bq methq cq ls hE hr hlk hml hnm hl hsz hH
  have hl : lv_has ls 5 [(0, .ref (G.ad 0)), (1, .int (nI T))] := hl
  have hB := hFT.1
  have hk := hFT.2.1
  have hA := hFT.2.2
  have h8 := hB.f.1
  have h10 := hB.f.2.1
  have h9 := hB.f.2.2.1
  have h13 := hB.f.2.2.2.1
  have h14 := hB.f.2.2.2.2.1
  have hm5 := hk.2.1
  have hm1 := hk.1
  have hC := hk.2.2.2.1
  have hR40 := hk.2.2.2.2.2.2.1
  have htT8 := tT_le hk
  have hO6 := hk.2.2.2.2.2.1
  refine lv_aload_n hE.1 hE.2.1 dX11_lay_0 rfl (lv_at hl 0 rfl) ?_
  refine rm_getr hE hH hG fl_X11_62 rfl (by decide) dX11_lay_1 ?_
  refine lv_iload_n hE.1 hE.2.1 dX11_lay_4 rfl (lv_at hl 1 rfl) ?_
  obtain ⟨lb, hlb, hly, hln⟩ := hLD
  refine rm_zald hE hH hG (k := 23) (by decide) rfl (N := 6) rfl (n := T) (by omega) (v := bI lb) (hlb) dX11_lay_5 ?_
  refine rn_ifb_eq (tgt := 10) hE dX11_lay_6 (by decide) (fun c6 => ?_) (fun c6 => ?_)
  · refine lv_aload_n hE.1 hE.2.1 dX11_lay_10 rfl (lv_at hl 0 rfl) ?_
    refine rm_getr hE hH hG fl_X11_62 rfl (by decide) dX11_lay_11 ?_
    refine lv_iload_n hE.1 hE.2.1 dX11_lay_14 rfl (lv_at hl 1 rfl) ?_
    refine lv_iconst (v := nI 1) hE.1 hE.2.1 dX11_lay_15 (by decide) ?_
    refine rm_zast hE hH hG (k := 23) (by decide) rfl (N := 6) rfl (n := T) (by omega) (v := nI 1) (w := bI true) (by decide) dX11_lay_16 (fun H locs hH => ?_)
    have hFr : Fr iv (up2 iv 23 T (bI true)) (pLY T) := Fr.up Fr.rf (Or.inr (Or.inr (Or.inl ⟨Or.inl rfl, rfl⟩)))
    have hFT : FT (up2 iv 23 T (bI true)) T tab := FT.fr hFT hFr (fun lb j h => by simp only [pLY] at h; omega)
    obtain ⟨h24, h27⟩ := hln c6
    refine lv_aload_n hE.1 hE.2.1 dX11_lay_17 rfl (lv_at hl 0 rfl) ?_
    refine lv_iload_n hE.1 hE.2.1 dX11_lay_18 rfl (lv_at hl 1 rfl) ?_
    refine rg_VV (As := [.int (nI T)]) (rest := []) hE hml hH mc_X11_269 (c_sortTerms l z G hG (up2 iv 23 T (bI true)) jv T hT tab hFT) hG.1.1 hG.1.2 (by decide) rfl ⟨Nat.le_of_ble_eq_true rfl, Nat.le_of_ble_eq_true rfl⟩ rfl hl.1 (by simp [Value.category]) dX11_lay_19 ⟨Nat.le_of_ble_eq_true rfl, Nat.le_of_ble_eq_true rfl⟩ (fun G19 iv19 jv19 H locs hp19 hH => ?_)
    obtain ⟨rfl, rfl, hS, hF19⟩ := hp19
    have hFT := FT.fr hFT hF19 (fun lb j h => by omega)
    have h8 := hFT.1.f.1
    have h10 := hFT.1.f.2.1
    have hFr := hFr.tr (hF19.mono (fun lb j h => by simp only [pLY]; omega))
    refine lv_aload_n hE.1 hE.2.1 dX11_lay_22 rfl (lv_at hl 0 rfl) ?_
    refine lv_aload_n hE.1 hE.2.1 dX11_lay_23 rfl (lv_at hl 0 rfl) ?_
    refine lv_iload_n hE.1 hE.2.1 dX11_lay_24 rfl (lv_at hl 1 rfl) ?_
    refine rg_VI (As := [.int (nI T)]) (rest := [.ref (G.ad 0)]) hE hml hH mc_X11_205 (c_casesOf l z G hG iv19 jv T (tm tab) hT hm5 (tf tab) h8 h10) hG.1.1 hG.1.2 (by decide) rfl ⟨Nat.le_of_ble_eq_true rfl, Nat.le_of_ble_eq_true rfl⟩ rfl hl.1 (by simp [Value.category]) dX11_lay_25 ⟨Nat.le_of_ble_eq_true rfl, Nat.le_of_ble_eq_true rfl⟩ (fun r25 G25 iv25 jv25 H locs hp25 hH => ?_)
    obtain ⟨rfl, rfl, rfl, rfl⟩ := hp25
    refine rn_as (v' := nI (tC tab)) rfl ?_
    refine rm_puti hE hH hG fl_X11_266 rfl fn_X11_42 (v := nI (tC tab)) dX11_lay_28 (fun H locs hH => ?_)
    have hW : WK iv (up2 iv19 0 42 (nI (tC tab))) T tab := ⟨FT.fr hFT (P := fun lb _ => lb = 0) (Fr.up Fr.rf rfl) (fun lb j h => by omega), hS, rfl, (hF19 23 T (by simp)).trans up2_s, Fr.up hFr (Or.inl ⟨rfl, rfl⟩)⟩
    have hRU : RU (up2 iv19 0 42 (nI (tC tab))) T (ruleU tab 0) := ⟨(hF19 24 T (by simp)).trans h24, fun k hk => absurd hk (Nat.not_lt_zero k)⟩
    have hOF : OF (up2 iv19 0 42 (nI (tC tab))) T [] := ⟨(hF19 27 T (by simp)).trans h27, fun k hk => absurd hk (Nat.not_lt_zero k)⟩
    refine lv_iconst (v := nI 0) hE.1 hE.2.1 dX11_lay_31 (by decide) ?_
    refine lv_istore_n (lv' := [(2, .int (nI 0)), (0, .ref (G.ad 0)), (1, .int (nI T))]) hE.1 hE.2.1 dX11_lay_32 rfl hl (by decide) rfl (fun ls hl => ?_)
    refine rg_loop (σ := IV × Nat) (nL := 5) (fun (u : IV × Nat) => match u with | (iv1, v) => tO tab - v) (fun (u : IV × Nat) => match u with | (iv1, v) => [(0, .ref (G.ad 0)), (1, .int (nI T)), (2, .int (nI v))]) (fun (u : IV × Nat) => match u with | (iv1, v) => G) (fun (u : IV × Nat) => match u with | (iv1, v) => iv1) (fun (u : IV × Nat) => match u with | (iv1, v) => jv) (fun (u : IV × Nat) => match u with | (iv1, v) => v ≤ tO tab ∧ WK iv iv1 T tab ∧ RU iv1 T (ruleU tab v) ∧ OF iv1 T []) ?_ ((up2 iv19 0 42 (nI (tC tab)), 0)) ⟨Nat.zero_le _, hW, hRU, hOF⟩ (lv_sub hl [1, 2, 0] rfl) hH
    rintro ⟨iv1, v⟩ H locs ls ⟨hvO, hW, hRU, hOF⟩ hl hH ih33
    try dsimp only at hl hH ih33
    try dsimp only at hvO hW hRU hOF
    refine lv_iload_n hE.1 hE.2.1 dX11_lay_33 rfl (lv_at hl 2 rfl) ?_
    refine lv_aload_n hE.1 hE.2.1 dX11_lay_34 rfl (lv_at hl 0 rfl) ?_
    refine rm_getr hE hH hG fl_X11_26 rfl (by decide) dX11_lay_35 ?_
    refine lv_bipush (v := nI 6) hE.1 hE.2.1 dX11_lay_38 (by decide) ?_
    refine lv_iload_n hE.1 hE.2.1 dX11_lay_40 rfl (lv_at hl 1 rfl) ?_
    refine rn_imul hE dX11_lay_41 ?_
    refine lv_iconst (v := nI 5) hE.1 hE.2.1 dX11_lay_42 (by decide) ?_
    refine rn_iadd hE dX11_lay_43 ?_
    refine rm_iald hE hH hG (k := 10) (by decide) rfl (N := 36) rfl (n := 6 * T + 5) (by omega) (v := nI (tO tab)) (hW.1.1.f.2.2.2.2.2) dX11_lay_44 ?_
    refine rn_icmp_ge (tgt := 139) hE dX11_lay_45 (by decide) (by omega) (by omega) (fun c45 => ?_) (fun c45 => ?_)
    · have hve : v = tO tab := by omega
      subst hve
      refine lv_iconst (v := nI 0) hE.1 hE.2.1 dX11_lay_139 (by decide) ?_
      refine lv_istore_n (lv' := [(2, .int (nI 0)), (0, .ref (G.ad 0)), (1, .int (nI T))]) hE.1 hE.2.1 dX11_lay_140 rfl hl (by decide) rfl (fun ls hl => ?_)
      refine rg_loop (σ := IV × Nat) (nL := 5) (fun (u : IV × Nat) => match u with | (iv4, c) => tC tab - c) (fun (u : IV × Nat) => match u with | (iv4, c) => [(0, .ref (G.ad 0)), (1, .int (nI T)), (2, .int (nI c))]) (fun (u : IV × Nat) => match u with | (iv4, c) => G) (fun (u : IV × Nat) => match u with | (iv4, c) => iv4) (fun (u : IV × Nat) => match u with | (iv4, c) => jv) (fun (u : IV × Nat) => match u with | (iv4, c) => c ≤ tC tab ∧ WK iv iv4 T tab ∧ RU iv4 T (ruleU tab (tO tab)) ∧ OF iv4 T [] ∧ ∀ d, d < c → iv4 41 d = bI false) ?_ ((iv1, 0)) ⟨Nat.zero_le _, hW, hRU, hOF, fun d hd => absurd hd (Nat.not_lt_zero d)⟩ (lv_sub hl [1, 2, 0] rfl) hH
      rintro ⟨iv4, c⟩ H locs ls ⟨hcC, hW, hRU, hOF, hhf⟩ hl hH ih141
      try dsimp only at hl hH ih141
      try dsimp only at hcC hW hRU hOF hhf
      refine lv_iload_n hE.1 hE.2.1 dX11_lay_141 rfl (lv_at hl 2 rfl) ?_
      refine lv_aload_n hE.1 hE.2.1 dX11_lay_142 rfl (lv_at hl 0 rfl) ?_
      refine rm_geti hE hH hG fl_X11_266 rfl (v := nI (tC tab)) (hW.2.2.1) dX11_lay_143 ?_
      refine rn_icmp_ge (tgt := 162) hE dX11_lay_146 (by decide) (by omega) (by omega) (fun c146 => ?_) (fun c146 => ?_)
      · have hHd : HLD iv4 tab (fun _ => false) := fun d hd => hhf d (by omega)
        refine lv_aload_n hE.1 hE.2.1 dX11_lay_162 rfl (lv_at hl 0 rfl) ?_
        refine lv_iload_n hE.1 hE.2.1 dX11_lay_163 rfl (lv_at hl 1 rfl) ?_
        refine lv_bipush (v := nI 6) hE.1 hE.2.1 dX11_lay_164 (by decide) ?_
        refine rg_VI (As := [.int (nI T), .int (nI 6)]) (rest := []) hE hml hH mc_X11_272 (c_bestTerm l z G hG iv4 jv T hT tab hW.1 6 (by omega) (fun _ => false) hW.2.1 hHd hW.2.2.1) hG.1.1 hG.1.2 (by decide) rfl ⟨Nat.le_of_ble_eq_true rfl, Nat.le_of_ble_eq_true rfl⟩ rfl hl.1 (by simp [Value.category]) dX11_lay_166 ⟨Nat.le_of_ble_eq_true rfl, Nat.le_of_ble_eq_true rfl⟩ (fun r166 G166 iv166 jv166 H locs hp166 hH => ?_)
        obtain ⟨rfl, rfl, rfl, hHd, hF166⟩ := hp166
        have hW := hW.fr hF166 (fun lb j h => by omega)
        have hRU := hRU.fr hF166 (fun lb j h => by omega)
        have hOF := hOF.fr hF166 (fun lb j h => by omega)
        refine lv_istore_n (lv' := [(2, .int (oI (bst tab 6 (fun _ => false)))), (0, .ref (G.ad 0)), (1, .int (nI T))]) hE.1 hE.2.1 dX11_lay_169 rfl hl (by decide) rfl (fun ls hl => ?_)
        refine rg_loop (σ := IV × List Nat × Nat × (Nat → Bool)) (nL := 5) (fun (u : IV × List Nat × Nat × (Nat → Bool)) => match u with | (iv5, acc, f, held) => uh tab 6 held) (fun (u : IV × List Nat × Nat × (Nat → Bool)) => match u with | (iv5, acc, f, held) => [(0, .ref (G.ad 0)), (1, .int (nI T)), (2, .int (oI (bst tab 6 held)))]) (fun (u : IV × List Nat × Nat × (Nat → Bool)) => match u with | (iv5, acc, f, held) => G) (fun (u : IV × List Nat × Nat × (Nat → Bool)) => match u with | (iv5, acc, f, held) => iv5) (fun (u : IV × List Nat × Nat × (Nat → Bool)) => match u with | (iv5, acc, f, held) => jv) (fun (u : IV × List Nat × Nat × (Nat → Bool)) => match u with | (iv5, acc, f, held) => uh tab 6 held ≤ f ∧ offers tab = acc ++ tka tab 6 f held ∧ HLD iv5 tab (hnx tab 6 held) ∧ WK iv iv5 T tab ∧ RU iv5 T (rule tab) ∧ OF iv5 T acc) ?_ ((iv166, [], 400, fun _ => false)) ⟨uh0_le hk, rfl, hHd, hW, hRU, hOF⟩ (lv_sub hl [1, 2, 0] rfl) hH
        rintro ⟨iv5, acc, f, held⟩ H locs ls ⟨huf, hrv, hHd, hW, hRU, hOF⟩ hl hH ih170
        try dsimp only at hl hH ih170
        try dsimp only at huf hrv hHd hW hRU hOF
        rw [tka_go huf] at hrv
        refine lv_iload_n hE.1 hE.2.1 dX11_lay_170 rfl (lv_at hl 2 rfl) ?_
        refine lv_iconst (v := -1) hE.1 hE.2.1 dX11_lay_171 (by decide) ?_
        refine lv_icmp_eq (tgt := 214) hE.1 hE.2.1 dX11_lay_172 (by decide) (fun c172 => ?_) (fun c172 => ?_)
        · rw [oI_m1 (fun k hk2 => by have := (bsI_g (tT tab) k hk2).1; omega)] at c172
          rw [c172] at hrv
          simp only [List.append_nil] at hrv
          exact rg_vret hE hr hlk hH ⟨rfl, rfl, ⟨hRU.1, hRU.2, by rw [hrv]; exact hOF.1, by rw [hrv]; exact hOF.2⟩, hW.2.2.2.1, hW.2.2.2.2⟩ dX11_lay_214
        · obtain ⟨q, hq⟩ : ∃ q, bst tab 6 held = some q := by
            cases h : bst tab 6 held with
            | none => rw [h] at c172; exact absurd rfl c172
            | some q => exact ⟨q, rfl⟩
          rw [hq] at hrv
          simp only at hrv
          have hHd : HLD iv5 tab (hup tab q held) := by unfold hnx at hHd; rw [hq] at hHd; exact hHd
          have hlen : acc.length < 400 := by
            have h1 := offers_len hk
            rw [hrv] at h1
            simp at h1
            omega
          have hl : lv_has ls 5 [(0, .ref (G.ad 0)), (1, .int (nI T)), (2, .int (nI q))] := by rw [hq] at hl; exact hl
          refine lv_aload_n hE.1 hE.2.1 dX11_lay_175 rfl (lv_at hl 0 rfl) ?_
          refine rm_getr hE hH hG fl_X11_78 rfl (by decide) dX11_lay_176 ?_
          refine lv_sipush (v := nI 400) hE.1 hE.2.1 dX11_lay_179 (by decide) ?_
          refine lv_iload_n hE.1 hE.2.1 dX11_lay_182 rfl (lv_at hl 1 rfl) ?_
          refine rn_imul hE dX11_lay_183 ?_
          refine lv_aload_n hE.1 hE.2.1 dX11_lay_184 rfl (lv_at hl 0 rfl) ?_
          refine rm_getr hE hH hG fl_X11_75 rfl (by decide) dX11_lay_185 ?_
          refine lv_iload_n hE.1 hE.2.1 dX11_lay_188 rfl (lv_at hl 1 rfl) ?_
          refine rm_iald hE hH hG (k := 27) (by decide) rfl (N := 6) rfl (n := T) (by omega) (v := nI acc.length) (hOF.1) dX11_lay_189 ?_
          refine rn_iadd hE dX11_lay_190 ?_
          refine lv_iload_n hE.1 hE.2.1 dX11_lay_191 rfl (lv_at hl 2 rfl) ?_
          refine rm_iast hE hH hG (k := 28) (by decide) rfl (N := 2400) rfl (n := 400 * T + acc.length) (by omega) (v := nI q) dX11_lay_192 (fun H locs hH => ?_)
          refine lv_aload_n hE.1 hE.2.1 dX11_lay_193 rfl (lv_at hl 0 rfl) ?_
          refine rm_getr hE hH hG fl_X11_75 rfl (by decide) dX11_lay_194 ?_
          refine lv_iload_n hE.1 hE.2.1 dX11_lay_197 rfl (lv_at hl 1 rfl) ?_
          refine lv_dup2_11 hE.1 hE.2.1 dX11_lay_198 rfl rfl ?_
          refine rm_iald hE hH hG (k := 27) (by decide) rfl (N := 6) rfl (n := T) (by omega) (v := nI acc.length) (hOF.1) dX11_lay_199 ?_
          refine lv_iconst (v := nI 1) hE.1 hE.2.1 dX11_lay_200 (by decide) ?_
          refine rn_iadd hE dX11_lay_201 ?_
          refine rm_iast hE hH hG (k := 27) (by decide) rfl (N := 6) rfl (n := T) (by omega) (v := nI (acc.length + 1)) dX11_lay_202 (fun H locs hH => ?_)
          have hU : Fr iv5 (up2 (up2 iv5 28 (400 * T + acc.length) (nI q)) 27 T (nI (acc.length + 1))) (fun lb j => ((lb = 27) ∧ j = T) ∨ ((lb = 28) ∧ 400 * T ≤ j ∧ j < 400 * T + 400)) := Fr.up (Fr.up Fr.rf (Or.inr ⟨rfl, by omega, by omega⟩)) (Or.inl ⟨rfl, rfl⟩)
          have hOF := hOF.add (a := q)
          have hW := hW.fr hU (fun lb j h => by omega)
          have hRU := hRU.fr hU (fun lb j h => by omega)
          have hHd : HLD (up2 (up2 iv5 28 (400 * T + acc.length) (nI q)) 27 T (nI (acc.length + 1))) tab (hup tab q held) := hHd
          refine lv_aload_n hE.1 hE.2.1 dX11_lay_203 rfl (lv_at hl 0 rfl) ?_
          refine lv_iload_n hE.1 hE.2.1 dX11_lay_204 rfl (lv_at hl 1 rfl) ?_
          refine lv_bipush (v := nI 6) hE.1 hE.2.1 dX11_lay_205 (by decide) ?_
          refine rg_VI (As := [.int (nI T), .int (nI 6)]) (rest := []) hE hml hH mc_X11_272 (c_bestTerm l z G hG (up2 (up2 iv5 28 (400 * T + acc.length) (nI q)) 27 T (nI (acc.length + 1))) jv T hT tab hW.1 6 (by omega) (hup tab q held) hW.2.1 hHd hW.2.2.1) hG.1.1 hG.1.2 (by decide) rfl ⟨Nat.le_of_ble_eq_true rfl, Nat.le_of_ble_eq_true rfl⟩ rfl hl.1 (by simp [Value.category]) dX11_lay_207 ⟨Nat.le_of_ble_eq_true rfl, Nat.le_of_ble_eq_true rfl⟩ (fun r207 G207 iv207 jv207 H locs hp207 hH => ?_)
          obtain ⟨rfl, rfl, rfl, hHd, hF207⟩ := hp207
          have hW := hW.fr hF207 (fun lb j h => by omega)
          have hRU := hRU.fr hF207 (fun lb j h => by omega)
          have hOF := hOF.fr hF207 (fun lb j h => by omega)
          refine lv_istore_n (lv' := [(2, .int (oI (bst tab 6 (hup tab q held)))), (0, .ref (G.ad 0)), (1, .int (nI T))]) hE.1 hE.2.1 dX11_lay_210 rfl hl (by decide) rfl (fun ls hl => ?_)
          refine lv_goto (tgt := 170) hE.1 hE.2.1 dX11_lay_211 (by decide) ?_
          exact ih170 (iv207, acc ++ [q], f - 1, hup tab q held) _ _ _ (uh_lt hq) ⟨by show uh tab 6 (hup tab q held) ≤ f - 1; have := uh_lt hq; omega, by show offers tab = (acc ++ [q]) ++ tka tab 6 (f - 1) (hup tab q held); rw [hrv]; simp, hHd, hW, hRU, hOF⟩ (lv_sub hl [1, 2, 0] rfl) hH
      · refine lv_aload_n hE.1 hE.2.1 dX11_lay_149 rfl (lv_at hl 0 rfl) ?_
        refine rm_getr hE hH hG fl_X11_93 rfl (by decide) dX11_lay_150 ?_
        refine lv_iload_n hE.1 hE.2.1 dX11_lay_153 rfl (lv_at hl 2 rfl) ?_
        refine lv_iconst (v := nI 0) hE.1 hE.2.1 dX11_lay_154 (by decide) ?_
        refine rm_zast hE hH hG (k := 41) (by decide) rfl (N := 400) rfl (n := c) (by omega) (v := nI 0) (w := bI false) (by decide) dX11_lay_155 (fun H locs hH => ?_)
        refine lv_iinc (v := nI (c + 1)) (lv' := [(2, .int (nI (c + 1))), (0, .ref (G.ad 0)), (1, .int (nI T))]) hE.1 hE.2.1 dX11_lay_156 hl (k := 2) rfl (nI_1 _) (by decide) rfl (fun ls hl => ?_)
        refine lv_goto (tgt := 141) hE.1 hE.2.1 dX11_lay_159 (by decide) ?_
        exact ih141 (up2 iv4 41 c (bI false), c + 1) _ _ _ (show tC tab - (c + 1) < tC tab - c by omega) ⟨by show c + 1 ≤ tC tab; omega, hW.fr (P := fun lb _ => lb = 41) (Fr.up Fr.rf rfl) (fun lb j h => by omega), hRU.fr (P := fun lb _ => lb = 41) (Fr.up Fr.rf rfl) (fun lb j h => by omega), hOF.fr (P := fun lb _ => lb = 41) (Fr.up Fr.rf rfl) (fun lb j h => by omega), fun d hd => by
          dsimp only
          by_cases hdc : d = c
          · subst hdc; exact up2_s
          · rw [up2_k hdc]; exact hhf d (by dsimp only at hd; omega)⟩ (lv_sub hl [1, 2, 0] rfl) hH
    · refine lv_iconst (v := nI 0) hE.1 hE.2.1 dX11_lay_48 (by decide) ?_
      refine lv_istore_n (lv' := [(3, .int (nI 0)), (0, .ref (G.ad 0)), (1, .int (nI T)), (2, .int (nI v))]) hE.1 hE.2.1 dX11_lay_49 rfl hl (by decide) rfl (fun ls hl => ?_)
      refine rg_loop (σ := IV × Nat) (nL := 5) (fun (u : IV × Nat) => match u with | (iv2, c) => tC tab - c) (fun (u : IV × Nat) => match u with | (iv2, c) => [(0, .ref (G.ad 0)), (1, .int (nI T)), (2, .int (nI v)), (3, .int (nI c))]) (fun (u : IV × Nat) => match u with | (iv2, c) => G) (fun (u : IV × Nat) => match u with | (iv2, c) => iv2) (fun (u : IV × Nat) => match u with | (iv2, c) => jv) (fun (u : IV × Nat) => match u with | (iv2, c) => c ≤ tC tab ∧ WK iv iv2 T tab ∧ RU iv2 T (ruleU tab v) ∧ OF iv2 T [] ∧ ∀ d, d < c → iv2 41 d = bI false) ?_ ((iv1, 0)) ⟨Nat.zero_le _, hW, hRU, hOF, fun d hd => absurd hd (Nat.not_lt_zero d)⟩ (lv_sub hl [1, 2, 3, 0] rfl) hH
      rintro ⟨iv2, c⟩ H locs ls ⟨hcC, hW, hRU, hOF, hhf⟩ hl hH ih50
      try dsimp only at hl hH ih50
      try dsimp only at hcC hW hRU hOF hhf
      refine lv_iload_n hE.1 hE.2.1 dX11_lay_50 rfl (lv_at hl 3 rfl) ?_
      refine lv_aload_n hE.1 hE.2.1 dX11_lay_51 rfl (lv_at hl 0 rfl) ?_
      refine rm_geti hE hH hG fl_X11_266 rfl (v := nI (tC tab)) (hW.2.2.1) dX11_lay_52 ?_
      refine rn_icmp_ge (tgt := 71) hE dX11_lay_55 (by decide) (by omega) (by omega) (fun c55 => ?_) (fun c55 => ?_)
      · have hHd : HLD iv2 tab (fun _ => false) := fun d hd => hhf d (by omega)
        refine lv_aload_n hE.1 hE.2.1 dX11_lay_71 rfl (lv_at hl 0 rfl) ?_
        refine lv_iload_n hE.1 hE.2.1 dX11_lay_72 rfl (lv_at hl 1 rfl) ?_
        refine lv_iload_n hE.1 hE.2.1 dX11_lay_73 rfl (lv_at hl 2 rfl) ?_
        refine rg_VI (As := [.int (nI T), .int (nI v)]) (rest := []) hE hml hH mc_X11_272 (c_bestTerm l z G hG iv2 jv T hT tab hW.1 v (by omega) (fun _ => false) hW.2.1 hHd hW.2.2.1) hG.1.1 hG.1.2 (by decide) rfl ⟨Nat.le_of_ble_eq_true rfl, Nat.le_of_ble_eq_true rfl⟩ rfl hl.1 (by simp [Value.category]) dX11_lay_74 ⟨Nat.le_of_ble_eq_true rfl, Nat.le_of_ble_eq_true rfl⟩ (fun r74 G74 iv74 jv74 H locs hp74 hH => ?_)
        obtain ⟨rfl, rfl, rfl, hHd, hF74⟩ := hp74
        have hW := hW.fr hF74 (fun lb j h => by omega)
        have hRU := hRU.fr hF74 (fun lb j h => by omega)
        have hOF := hOF.fr hF74 (fun lb j h => by omega)
        refine lv_istore_n (lv' := [(3, .int (oI (bst tab v (fun _ => false)))), (0, .ref (G.ad 0)), (1, .int (nI T)), (2, .int (nI v))]) hE.1 hE.2.1 dX11_lay_77 rfl hl (by decide) rfl (fun ls hl => ?_)
        refine rg_loop (σ := IV × List Nat × Nat × (Nat → Bool)) (nL := 5) (fun (u : IV × List Nat × Nat × (Nat → Bool)) => match u with | (iv3, acc, f, held) => uh tab v held) (fun (u : IV × List Nat × Nat × (Nat → Bool)) => match u with | (iv3, acc, f, held) => [(0, .ref (G.ad 0)), (1, .int (nI T)), (2, .int (nI v)), (3, .int (oI (bst tab v held)))]) (fun (u : IV × List Nat × Nat × (Nat → Bool)) => match u with | (iv3, acc, f, held) => G) (fun (u : IV × List Nat × Nat × (Nat → Bool)) => match u with | (iv3, acc, f, held) => iv3) (fun (u : IV × List Nat × Nat × (Nat → Bool)) => match u with | (iv3, acc, f, held) => jv) (fun (u : IV × List Nat × Nat × (Nat → Bool)) => match u with | (iv3, acc, f, held) => uh tab v held ≤ f ∧ ruleV tab v = acc ++ tka tab v f held ∧ HLD iv3 tab (hnx tab v held) ∧ WK iv iv3 T tab ∧ RU iv3 T (ruleU tab v ++ acc.map (fun t => (t, v))) ∧ OF iv3 T []) ?_ ((iv74, [], 400, fun _ => false)) ⟨uh0_le hk, rfl, hHd, hW, by simpa using hRU, hOF⟩ (lv_sub hl [1, 2, 3, 0] rfl) hH
        rintro ⟨iv3, acc, f, held⟩ H locs ls ⟨huf, hrv, hHd, hW, hRU, hOF⟩ hl hH ih78
        try dsimp only at hl hH ih78
        try dsimp only at huf hrv hHd hW hRU hOF
        rw [tka_go huf] at hrv
        refine lv_iload_n hE.1 hE.2.1 dX11_lay_78 rfl (lv_at hl 3 rfl) ?_
        refine lv_iconst (v := -1) hE.1 hE.2.1 dX11_lay_79 (by decide) ?_
        refine lv_icmp_eq (tgt := 133) hE.1 hE.2.1 dX11_lay_80 (by decide) (fun c80 => ?_) (fun c80 => ?_)
        · rw [oI_m1 (fun k hk2 => by have := (bsI_g (tT tab) k hk2).1; omega)] at c80
          rw [c80] at hrv
          simp only [List.append_nil] at hrv
          refine lv_iinc (v := nI (v + 1)) (lv' := [(2, .int (nI (v + 1))), (0, .ref (G.ad 0)), (1, .int (nI T)), (3, .int (oI (bst tab v held)))]) hE.1 hE.2.1 dX11_lay_133 hl (k := 2) rfl (nI_1 _) (by decide) rfl (fun ls hl => ?_)
          refine lv_goto (tgt := 33) hE.1 hE.2.1 dX11_lay_136 (by decide) ?_
          exact ih33 (iv3, v + 1) _ _ _ (show tO tab - (v + 1) < tO tab - v by omega) ⟨by show v + 1 ≤ tO tab; omega, hW, by show RU iv3 T (ruleU tab (v + 1)); rw [ruleU, hrv]; exact hRU, hOF⟩ (lv_sub hl [1, 2, 0] rfl) hH
        · obtain ⟨q, hq⟩ : ∃ q, bst tab v held = some q := by
            cases h : bst tab v held with
            | none => rw [h] at c80; exact absurd rfl c80
            | some q => exact ⟨q, rfl⟩
          rw [hq] at hrv
          simp only at hrv
          have hHd : HLD iv3 tab (hup tab q held) := by unfold hnx at hHd; rw [hq] at hHd; exact hHd
          have hlen : (ruleU tab v ++ acc.map (fun t => (t, v))).length < 400 := by
            have h1 := rule_len hk
            have h2 := ruleU_mono (tab := tab) (v := v + 1) (tO tab - (v + 1))
            rw [show v + 1 + (tO tab - (v + 1)) = tO tab by omega] at h2
            have h3 : (ruleU tab (v + 1)).length = (ruleU tab v).length + (ruleV tab v).length := by simp [ruleU]
            have h4 : (ruleV tab v).length ≥ acc.length + 1 := by rw [hrv]; simp
            have h5 : (rule tab).length = (ruleU tab (tO tab)).length := rfl
            simp only [List.length_append, List.length_map]
            omega
          have hl : lv_has ls 5 [(0, .ref (G.ad 0)), (1, .int (nI T)), (2, .int (nI v)), (3, .int (nI q))] := by rw [hq] at hl; exact hl
          refine lv_sipush (v := nI 400) hE.1 hE.2.1 dX11_lay_83 (by decide) ?_
          refine lv_iload_n hE.1 hE.2.1 dX11_lay_86 rfl (lv_at hl 1 rfl) ?_
          refine rn_imul hE dX11_lay_87 ?_
          refine lv_aload_n hE.1 hE.2.1 dX11_lay_88 rfl (lv_at hl 0 rfl) ?_
          refine rm_getr hE hH hG fl_X11_66 rfl (by decide) dX11_lay_89 ?_
          refine lv_iload_n hE.1 hE.2.1 dX11_lay_92 rfl (lv_at hl 1 rfl) ?_
          refine rm_iald hE hH hG (k := 24) (by decide) rfl (N := 6) rfl (n := T) (by omega) (v := nI ((ruleU tab v ++ acc.map (fun t => (t, v))).length)) (hRU.1) dX11_lay_93 ?_
          refine rn_iadd hE dX11_lay_94 ?_
          refine lv_istore (lv' := [(4, .int (nI (400 * T + ((ruleU tab v ++ acc.map (fun t => (t, v))).length)))), (0, .ref (G.ad 0)), (1, .int (nI T)), (2, .int (nI v)), (3, .int (nI q))]) hE.1 hE.2.1 dX11_lay_95 hl (by decide) rfl (fun ls hl => ?_)
          refine lv_aload_n hE.1 hE.2.1 dX11_lay_97 rfl (lv_at hl 1 rfl) ?_
          refine rm_getr hE hH hG fl_X11_69 rfl (by decide) dX11_lay_98 ?_
          refine lv_iload hE.1 hE.2.1 dX11_lay_101 (lv_at hl 0 rfl) ?_
          refine lv_iload_n hE.1 hE.2.1 dX11_lay_103 rfl (lv_at hl 4 rfl) ?_
          refine rm_iast hE hH hG (k := 25) (by decide) rfl (N := 2400) rfl (n := 400 * T + ((ruleU tab v ++ acc.map (fun t => (t, v))).length)) (by omega) (v := nI q) dX11_lay_104 (fun H locs hH => ?_)
          refine lv_aload_n hE.1 hE.2.1 dX11_lay_105 rfl (lv_at hl 1 rfl) ?_
          refine rm_getr hE hH hG fl_X11_72 rfl (by decide) dX11_lay_106 ?_
          refine lv_iload hE.1 hE.2.1 dX11_lay_109 (lv_at hl 0 rfl) ?_
          refine lv_iload_n hE.1 hE.2.1 dX11_lay_111 rfl (lv_at hl 3 rfl) ?_
          refine rm_iast hE hH hG (k := 26) (by decide) rfl (N := 2400) rfl (n := 400 * T + ((ruleU tab v ++ acc.map (fun t => (t, v))).length)) (by omega) (v := nI v) dX11_lay_112 (fun H locs hH => ?_)
          refine lv_aload_n hE.1 hE.2.1 dX11_lay_113 rfl (lv_at hl 1 rfl) ?_
          refine rm_getr hE hH hG fl_X11_66 rfl (by decide) dX11_lay_114 ?_
          refine lv_iload_n hE.1 hE.2.1 dX11_lay_117 rfl (lv_at hl 2 rfl) ?_
          refine lv_dup2_11 hE.1 hE.2.1 dX11_lay_118 rfl rfl ?_
          refine rm_iald hE hH hG (k := 24) (by decide) rfl (N := 6) rfl (n := T) (by omega) (v := nI ((ruleU tab v ++ acc.map (fun t => (t, v))).length)) (hRU.1) dX11_lay_119 ?_
          refine lv_iconst (v := nI 1) hE.1 hE.2.1 dX11_lay_120 (by decide) ?_
          refine rn_iadd hE dX11_lay_121 ?_
          refine rm_iast hE hH hG (k := 24) (by decide) rfl (N := 6) rfl (n := T) (by omega) (v := nI ((ruleU tab v ++ acc.map (fun t => (t, v))).length + 1)) dX11_lay_122 (fun H locs hH => ?_)
          have hU : Fr iv3 (up2 (up2 (up2 iv3 25 (400 * T + ((ruleU tab v ++ acc.map (fun t => (t, v))).length)) (nI q)) 26 (400 * T + ((ruleU tab v ++ acc.map (fun t => (t, v))).length)) (nI v)) 24 T (nI ((ruleU tab v ++ acc.map (fun t => (t, v))).length + 1))) (fun lb j => ((lb = 24) ∧ j = T) ∨ ((lb = 25 ∨ lb = 26) ∧ 400 * T ≤ j ∧ j < 400 * T + 400)) := Fr.up (Fr.up (Fr.up Fr.rf (Or.inr ⟨Or.inl rfl, by omega, by omega⟩)) (Or.inr ⟨Or.inr rfl, by omega, by omega⟩)) (Or.inl ⟨rfl, rfl⟩)
          have hRU := hRU.add (a := q) (b := v)
          have hW := hW.fr hU (fun lb j h => by omega)
          have hOF := hOF.fr hU (fun lb j h => by omega)
          have hHd : HLD (up2 (up2 (up2 iv3 25 (400 * T + ((ruleU tab v ++ acc.map (fun t => (t, v))).length)) (nI q)) 26 (400 * T + ((ruleU tab v ++ acc.map (fun t => (t, v))).length)) (nI v)) 24 T (nI ((ruleU tab v ++ acc.map (fun t => (t, v))).length + 1))) tab (hup tab q held) := hHd
          refine lv_aload_n hE.1 hE.2.1 dX11_lay_123 rfl (lv_at hl 1 rfl) ?_
          refine lv_iload_n hE.1 hE.2.1 dX11_lay_124 rfl (lv_at hl 2 rfl) ?_
          refine lv_iload_n hE.1 hE.2.1 dX11_lay_125 rfl (lv_at hl 3 rfl) ?_
          refine rg_VI (As := [.int (nI T), .int (nI v)]) (rest := []) hE hml hH mc_X11_272 (c_bestTerm l z G hG (up2 (up2 (up2 iv3 25 (400 * T + ((ruleU tab v ++ acc.map (fun t => (t, v))).length)) (nI q)) 26 (400 * T + ((ruleU tab v ++ acc.map (fun t => (t, v))).length)) (nI v)) 24 T (nI ((ruleU tab v ++ acc.map (fun t => (t, v))).length + 1))) jv T hT tab hW.1 v (by omega) (hup tab q held) hW.2.1 hHd hW.2.2.1) hG.1.1 hG.1.2 (by decide) rfl ⟨Nat.le_of_ble_eq_true rfl, Nat.le_of_ble_eq_true rfl⟩ rfl hl.1 (by simp [Value.category]) dX11_lay_126 ⟨Nat.le_of_ble_eq_true rfl, Nat.le_of_ble_eq_true rfl⟩ (fun r126 G126 iv126 jv126 H locs hp126 hH => ?_)
          obtain ⟨rfl, rfl, rfl, hHd, hF126⟩ := hp126
          have hW := hW.fr hF126 (fun lb j h => by omega)
          have hRU := hRU.fr hF126 (fun lb j h => by omega)
          have hOF := hOF.fr hF126 (fun lb j h => by omega)
          refine lv_istore_n (lv' := [(3, .int (oI (bst tab v (hup tab q held)))), (4, .int (nI (400 * T + ((ruleU tab v ++ acc.map (fun t => (t, v))).length)))), (0, .ref (G.ad 0)), (1, .int (nI T)), (2, .int (nI v))]) hE.1 hE.2.1 dX11_lay_129 rfl hl (by decide) rfl (fun ls hl => ?_)
          refine lv_goto (tgt := 78) hE.1 hE.2.1 dX11_lay_130 (by decide) ?_
          exact ih78 (iv126, acc ++ [q], f - 1, hup tab q held) _ _ _ (uh_lt hq) ⟨by show uh tab v (hup tab q held) ≤ f - 1; have := uh_lt hq; omega, by show ruleV tab v = (acc ++ [q]) ++ tka tab v (f - 1) (hup tab q held); rw [hrv]; simp, hHd, hW, by simpa using hRU, hOF⟩ (lv_sub hl [2, 3, 4, 0] rfl) hH
      · refine lv_aload_n hE.1 hE.2.1 dX11_lay_58 rfl (lv_at hl 0 rfl) ?_
        refine rm_getr hE hH hG fl_X11_93 rfl (by decide) dX11_lay_59 ?_
        refine lv_iload_n hE.1 hE.2.1 dX11_lay_62 rfl (lv_at hl 3 rfl) ?_
        refine lv_iconst (v := nI 0) hE.1 hE.2.1 dX11_lay_63 (by decide) ?_
        refine rm_zast hE hH hG (k := 41) (by decide) rfl (N := 400) rfl (n := c) (by omega) (v := nI 0) (w := bI false) (by decide) dX11_lay_64 (fun H locs hH => ?_)
        refine lv_iinc (v := nI (c + 1)) (lv' := [(3, .int (nI (c + 1))), (0, .ref (G.ad 0)), (1, .int (nI T)), (2, .int (nI v))]) hE.1 hE.2.1 dX11_lay_65 hl (k := 3) rfl (nI_1 _) (by decide) rfl (fun ls hl => ?_)
        refine lv_goto (tgt := 50) hE.1 hE.2.1 dX11_lay_68 (by decide) ?_
        exact ih50 (up2 iv2 41 c (bI false), c + 1) _ _ _ (show tC tab - (c + 1) < tC tab - c by omega) ⟨by show c + 1 ≤ tC tab; omega, hW.fr (P := fun lb _ => lb = 41) (Fr.up Fr.rf rfl) (fun lb j h => by omega), hRU.fr (P := fun lb _ => lb = 41) (Fr.up Fr.rf rfl) (fun lb j h => by omega), hOF.fr (P := fun lb _ => lb = 41) (Fr.up Fr.rf rfl) (fun lb j h => by omega), fun d hd => by
          dsimp only
          by_cases hdc : d = c
          · subst hdc; exact up2_s
          · rw [up2_k hdc]; exact hhf d (by dsimp only at hd; omega)⟩ (lv_sub hl [1, 2, 3, 0] rfl) hH
  · exact rg_vret hE hr hlk hH ⟨rfl, rfl, hly c6, by rw [hlb, c6], Fr.rf⟩ dX11_lay_9
