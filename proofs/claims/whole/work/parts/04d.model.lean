set_option maxRecDepth 100000 in
set_option maxHeartbeats 4000000 in
theorem c_tell (l : Launch) (z : ZK) (G : GW) (hG : isM G) (iv : IV) (jv : JV) (a : AS) (hS : MSt iv a) (t : Int32) : cI l z yX11_tell cX11_tell 6 (some .int) 5 114 0 0 [.ref (G.ad 0), .int (t)] G iv jv (fun r G' iv' jv' => G = G' ∧ jv = jv' ∧ (iv' 0 0 = nI (spTell a t).1 ∧ r = (spTell a t).2.1 ∧ MSt iv' (spTell a t).2.2) ∧ Fr iv iv' pM) := by
  intro sz
  refine rg_entry rfl (Nat.le_of_ble_eq_true rfl) ?_
  intro pq eq sq mq bq methq cq ls hE hr hlk hml hnm hl hsz hH
  have hl : lv_has ls 6 [(0, .ref (G.ad 0)), (1, .int (t))] := hl
  refine lv_aload_n hE.1 hE.2.1 dX11_tell_0 rfl (lv_at hl 0 rfl) ?_
  refine lv_iconst (v := nI 0) hE.1 hE.2.1 dX11_tell_1 (by decide) ?_
  refine rm_puti hE hH hG fl_X11_96 rfl fn_X11_0 (v := nI 0) dX11_tell_2 (fun H locs hH => ?_)
  have hF0 : Fr iv (up2 iv 0 0 (nI 0)) pM := up0_M
  have hS : MSt (up2 iv 0 0 (nI 0)) a := hS.c0
  have h00 : (up2 iv 0 0 (nI 0)) 0 0 = nI 0 := rfl
  generalize up2 iv 0 0 (nI 0) = iv1 at hH hS hF0 h00
  have hS6 := hS.2.2.1.2.1
  have hS12 := hS.2.2.2.1.2.1
  have hS3 := hS.1.2.1
  have hSo := hS.2.2.2.2.2.1
  refine lv_aload_n hE.1 hE.2.1 dX11_tell_5 rfl (lv_at hl 0 rfl) ?_
  refine lv_iload_n hE.1 hE.2.1 dX11_tell_6 rfl (lv_at hl 1 rfl) ?_
  refine rg_VI (As := [.int (t)]) (rest := []) hE hml hH mc_X11_231 (c_isTable l z G hG iv1 jv t (aT a).length hS.2.2.1.1) hG.1.1 hG.1.2 (by decide) rfl ⟨Nat.le_of_ble_eq_true rfl, Nat.le_of_ble_eq_true rfl⟩ rfl hl.1 (by simp [Value.category]) dX11_tell_7 ⟨Nat.le_of_ble_eq_true rfl, Nat.le_of_ble_eq_true rfl⟩ (fun r7 G7 iv7 jv7 H locs hp7 hH => ?_)
  obtain ⟨rfl, rfl, rfl, rfl⟩ := hp7
  refine rn_ifb_ne (tgt := 18) hE dX11_tell_10 (by decide) (fun c10 => ?_) (fun c10 => ?_)
  · obtain ⟨T, hTl, rfl⟩ := inI_of (by omega) c10
    have hT : T < 6 := by omega
    obtain ⟨tab, htab⟩ : ∃ x, x = aTb a T := ⟨_, rfl⟩
    have hFT : FT iv1 T tab := by rw [htab]; exact (hS.2.2.1.2.2.1 T hTl).1
    have hTW : tabW tab := by rw [htab]; exact (hS.2.2.1.2.2.1 T hTl).2.1
    have hLD : LD iv1 T tab := by rw [htab]; exact (hS.2.2.1.2.2.1 T hTl).2.2
    have hB := hFT.1
    have hk := hFT.2.1
    have hA := hFT.2.2
    have h8 := hB.f.1
    have h10 := hB.f.2.1
    have h9 := hB.f.2.2.1
    have h13 := hB.f.2.2.2.1
    have h14 := hB.f.2.2.2.2.1
    have hm5 := hk.2.1
    have hm1 := hk.1
    have hC := hk.2.2.2.1
    have hR40 := hk.2.2.2.2.2.2.1
    refine lv_aload_n hE.1 hE.2.1 dX11_tell_18 rfl (lv_at hl 0 rfl) ?_
    refine lv_iload_n hE.1 hE.2.1 dX11_tell_19 rfl (lv_at hl 1 rfl) ?_
    refine rg_VV (As := [.int (nI T)]) (rest := []) hE hml hH mc_X11_284 (c_lay l z G hG iv1 jv T hT tab hFT hLD) hG.1.1 hG.1.2 (by decide) rfl ⟨Nat.le_of_ble_eq_true rfl, Nat.le_of_ble_eq_true rfl⟩ rfl hl.1 (by simp [Value.category]) dX11_tell_20 ⟨Nat.le_of_ble_eq_true rfl, Nat.le_of_ble_eq_true rfl⟩ (fun G20 iv20 jv20 H locs hp20 hH => ?_)
    obtain ⟨rfl, rfl, hLY, h23, hF20⟩ := hp20
    have hS := hS.lay hTl hF20 (by rw [← htab]; exact hLY) h23
    have hF0 := hF0.tr (hF20.mono (fun lb j h => by simp only [pLY, pM] at h ⊢; omega))
    have h00 : iv20 0 0 = nI 0 := (hF20 0 0 (by simp)).trans h00
    have hFT : FT iv20 T tab := by rw [htab]; exact (hS.2.2.1.2.2.1 T hTl).1
    have hB := hFT.1
    have hk := hFT.2.1
    have hA := hFT.2.2
    have h8 := hB.f.1
    have h10 := hB.f.2.1
    have h9 := hB.f.2.2.1
    have h13 := hB.f.2.2.2.1
    have h14 := hB.f.2.2.2.2.1
    have hm5 := hk.2.1
    have hm1 := hk.1
    have hC := hk.2.2.2.1
    have hR40 := hk.2.2.2.2.2.2.1
    have hrl := rule_len hk
    have hol := offers_len hk
    have htT8 := tT_le hk
    have hTL : TL iv20 T tab := ⟨hFT, hLY⟩
    refine lv_aload_n hE.1 hE.2.1 dX11_tell_23 rfl (lv_at hl 0 rfl) ?_
    refine lv_iconst (v := nI 0) hE.1 hE.2.1 dX11_tell_24 (by decide) ?_
    refine rm_puti hE hH hG fl_X11_287 rfl fn_X11_4 (v := nI 0) dX11_tell_25 (fun H locs hH => ?_)
    have hO : mOu (up2 iv20 0 4 (nI 0)) (tTx tab 0) := ⟨rfl, (show 0 < 1000000 by decide), fun k hk => absurd hk (Nat.not_lt_zero k)⟩
    have hFr : Fr iv20 (up2 iv20 0 4 (nI 0)) pO := Fr.up Fr.rf (Or.inl ⟨rfl, rfl⟩)
    refine lv_iconst (v := nI 0) hE.1 hE.2.1 dX11_tell_28 (by decide) ?_
    refine lv_istore_n (lv' := [(2, .int (nI 0)), (0, .ref (G.ad 0)), (1, .int (nI T))]) hE.1 hE.2.1 dX11_tell_29 rfl hl (by decide) rfl (fun ls hl => ?_)
    refine rg_loop (σ := IV × Nat) (nL := 6) (fun (u : IV × Nat) => match u with | (iv2, k) => (rule tab).length - k) (fun (u : IV × Nat) => match u with | (iv2, k) => [(0, .ref (G.ad 0)), (1, .int (nI T)), (2, .int (nI k))]) (fun (u : IV × Nat) => match u with | (iv2, k) => G) (fun (u : IV × Nat) => match u with | (iv2, k) => iv2) (fun (u : IV × Nat) => match u with | (iv2, k) => jv) (fun (u : IV × Nat) => match u with | (iv2, k) => k ≤ (rule tab).length ∧ mOu iv2 (tTx tab k) ∧ Fr iv20 iv2 pO) ?_ ((up2 iv20 0 4 (nI 0), 0)) ⟨Nat.zero_le _, hO, hFr⟩ (lv_sub hl [1, 2, 0] rfl) hH
    rintro ⟨iv2, k⟩ H locs ls ⟨hkr, hO, hFr⟩ hl hH ih30
    try dsimp only at hl hH ih30
    try dsimp only at hkr hO hFr
    have hTL2 : TL iv2 T tab := hTL.fr hFr
    have hFT := hTL2.1
    have hLY := hTL2.2
    have hB := hFT.1
    have hk := hFT.2.1
    have hA := hFT.2.2
    have h8 := hB.f.1
    have h10 := hB.f.2.1
    have h9 := hB.f.2.2.1
    have h13 := hB.f.2.2.2.1
    have h14 := hB.f.2.2.2.2.1
    have hm5 := hk.2.1
    have hm1 := hk.1
    have hC := hk.2.2.2.1
    have hR40 := hk.2.2.2.2.2.2.1
    have hxl := tTx_len hTW hk k hkr
    refine lv_iload_n hE.1 hE.2.1 dX11_tell_30 rfl (lv_at hl 2 rfl) ?_
    refine lv_aload_n hE.1 hE.2.1 dX11_tell_31 rfl (lv_at hl 0 rfl) ?_
    refine rm_getr hE hH hG fl_X11_66 rfl (by decide) dX11_tell_32 ?_
    refine lv_iload_n hE.1 hE.2.1 dX11_tell_35 rfl (lv_at hl 1 rfl) ?_
    refine rm_iald hE hH hG (k := 24) (by decide) rfl (N := 6) rfl (n := T) (by omega) (v := nI ((rule tab).length)) (hLY.1) dX11_tell_36 ?_
    refine rn_icmp_ge (tgt := 189) hE dX11_tell_37 (by decide) (by omega) (by omega) (fun c37 => ?_) (fun c37 => ?_)
    · have hke : k = (rule tab).length := by omega
      refine lv_aload_n hE.1 hE.2.1 dX11_tell_189 rfl (lv_at hl 0 rfl) ?_
      refine rm_geti hE hH hG fl_X11_287 rfl (v := nI ((tTx tab k).length)) (hO.1) dX11_tell_190 ?_
      exact rg_iret hE hr rfl hlk hH ⟨rfl, rfl, by rw [show spTell a (nI T) = ok (nI (text tab).length) (aN a, aY a, aF a, aT a, aP a, text tab) by rw [spTell, onK_t hTl (by omega), ← htab]]; rw [hke] at hO; exact ⟨(hFr 0 0 (by decide)).trans h00, by rw [hke]; rfl, hS.out hFr hO⟩, hF0.tr (hFr.mono (fun lb j h => by simp only [pO, pM] at h ⊢; omega))⟩ dX11_tell_193
    · have hrb := rule_lt (tab := tab) (i := k) (by omega)
      have hw1 := tabW_o hTW hrb.2
      have hw18 := hw1.1
      have hO6 := hk.2.2.2.2.2.1
      refine lv_aload_n hE.1 hE.2.1 dX11_tell_40 rfl (lv_at hl 0 rfl) ?_
      refine lv_iload_n hE.1 hE.2.1 dX11_tell_41 rfl (lv_at hl 1 rfl) ?_
      refine lv_iconst (v := nI 5) hE.1 hE.2.1 dX11_tell_42 (by decide) ?_
      refine lv_iconst (v := nI 1) hE.1 hE.2.1 dX11_tell_43 (by decide) ?_
      refine lv_aload_n hE.1 hE.2.1 dX11_tell_44 rfl (lv_at hl 0 rfl) ?_
      refine rm_getr hE hH hG fl_X11_72 rfl (by decide) dX11_tell_45 ?_
      refine lv_sipush (v := nI 400) hE.1 hE.2.1 dX11_tell_48 (by decide) ?_
      refine lv_iload_n hE.1 hE.2.1 dX11_tell_51 rfl (lv_at hl 1 rfl) ?_
      refine rn_imul hE dX11_tell_52 ?_
      refine lv_iload_n hE.1 hE.2.1 dX11_tell_53 rfl (lv_at hl 2 rfl) ?_
      refine rn_iadd hE dX11_tell_54 ?_
      refine rm_iald hE hH hG (k := 26) (by decide) rfl (N := 2400) rfl (n := 400 * T + k) (by omega) (v := nI (((rule tab).getD k (0, 0)).2)) ((hLY.2.1 k (by omega)).2) dX11_tell_55 ?_
      refine rn_iadd hE dX11_tell_56 ?_
      refine rg_SI (As := [.int (nI T), .int (nI 5), .int (nI (1 + (((rule tab).getD k (0, 0)).2)))]) (rest := [.ref (G.ad 0)]) hE hml hH mc_X11_179 (c_wordAt l z G hG iv2 jv T 5 (1 + (((rule tab).getD k (0, 0)).2))) rfl ⟨Nat.le_of_ble_eq_true rfl, Nat.le_of_ble_eq_true rfl⟩ rfl hl.1 (by simp [Value.category]) dX11_tell_57 ⟨Nat.le_of_ble_eq_true rfl, Nat.le_of_ble_eq_true rfl⟩ (fun r57 G57 iv57 jv57 H locs hp57 hH => ?_)
      obtain ⟨rfl, rfl, rfl, rfl⟩ := hp57
      refine rg_VV (As := [.int (nI (42 * T + 7 * 5 + (1 + (((rule tab).getD k (0, 0)).2))))]) (rest := []) hE hml hH mc_X11_293 (c_sayWord l z G hG iv2 jv (tTx tab k) hO (42 * T + 7 * 5 + (1 + (((rule tab).getD k (0, 0)).2))) (by omega) (tab.2.1.getD ((rule tab).getD k (0, 0)).2 []) (hFT.ov hrb.2) (wOK_7 hw1) (by omega)) hG.1.1 hG.1.2 (by decide) rfl ⟨Nat.le_of_ble_eq_true rfl, Nat.le_of_ble_eq_true rfl⟩ rfl hl.1 (by simp [Value.category]) dX11_tell_60 ⟨Nat.le_of_ble_eq_true rfl, Nat.le_of_ble_eq_true rfl⟩ (fun G60 iv60 jv60 H locs hp60 hH => ?_)
      obtain ⟨rfl, rfl, hO, hF60⟩ := hp60
      have hFr := hFr.tr hF60
      refine lv_iconst (v := nI 1) hE.1 hE.2.1 dX11_tell_63 (by decide) ?_
      refine lv_istore_n (lv' := [(3, .int (nI 1)), (0, .ref (G.ad 0)), (1, .int (nI T)), (2, .int (nI k))]) hE.1 hE.2.1 dX11_tell_64 rfl hl (by decide) rfl (fun ls hl => ?_)
      have hl : lv_has ls 6 [(3, .int (bI (decide (tcI tab ((rule tab).getD k (0, 0)).1 0 = [])))), (0, .ref (G.ad 0)), (1, .int (nI T)), (2, .int (nI k))] := by rw [show decide (tcI tab ((rule tab).getD k (0, 0)).1 0 = []) = true from rfl]; exact hl
      refine lv_iconst (v := nI 0) hE.1 hE.2.1 dX11_tell_65 (by decide) ?_
      refine lv_istore (lv' := [(4, .int (nI 0)), (3, .int (bI (decide (tcI tab ((rule tab).getD k (0, 0)).1 0 = [])))), (0, .ref (G.ad 0)), (1, .int (nI T)), (2, .int (nI k))]) hE.1 hE.2.1 dX11_tell_66 hl (by decide) rfl (fun ls hl => ?_)
      refine rg_loop (σ := IV × Nat) (nL := 6) (fun (u : IV × Nat) => match u with | (iv3, i) => tm tab - i) (fun (u : IV × Nat) => match u with | (iv3, i) => [(0, .ref (G.ad 0)), (1, .int (nI T)), (2, .int (nI k)), (3, .int (bI (decide (tcI tab ((rule tab).getD k (0, 0)).1 i = [])))), (4, .int (nI i))]) (fun (u : IV × Nat) => match u with | (iv3, i) => G) (fun (u : IV × Nat) => match u with | (iv3, i) => iv3) (fun (u : IV × Nat) => match u with | (iv3, i) => jv) (fun (u : IV × Nat) => match u with | (iv3, i) => i ≤ tm tab ∧ mOu iv3 (tTx tab k ++ tab.2.1.getD ((rule tab).getD k (0, 0)).2 [] ++ tcI tab ((rule tab).getD k (0, 0)).1 i) ∧ Fr iv20 iv3 pO) ?_ ((iv60, 0)) ⟨Nat.zero_le _, by rw [tcI, List.append_nil]; exact hO, hFr⟩ (lv_sub hl [2, 3, 4, 1, 0] rfl) hH
      rintro ⟨iv3, i⟩ H locs ls ⟨hiT, hO, hFr⟩ hl hH ih68
      try dsimp only at hl hH ih68
      try dsimp only at hiT hO hFr
      have hTL2 : TL iv3 T tab := hTL.fr hFr
      have hFT := hTL2.1
      have hLY := hTL2.2
      have hB := hFT.1
      have hk := hFT.2.1
      have hA := hFT.2.2
      have h8 := hB.f.1
      have h10 := hB.f.2.1
      have h9 := hB.f.2.2.1
      have h13 := hB.f.2.2.2.1
      have h14 := hB.f.2.2.2.2.1
      have hm5 := hk.2.1
      have hm1 := hk.1
      have hC := hk.2.2.2.1
      have hR40 := hk.2.2.2.2.2.2.1
      have hcl := tcI_len hTW hk (t := ((rule tab).getD k (0, 0)).1) i hiT
      refine lv_iload hE.1 hE.2.1 dX11_tell_68 (lv_at hl 4 rfl) ?_
      refine lv_aload_n hE.1 hE.2.1 dX11_tell_70 rfl (lv_at hl 0 rfl) ?_
      refine rm_getr hE hH hG fl_X11_20 rfl (by decide) dX11_tell_71 ?_
      refine lv_iload_n hE.1 hE.2.1 dX11_tell_74 rfl (lv_at hl 1 rfl) ?_
      refine rm_iald hE hH hG (k := 8) (by decide) rfl (N := 6) rfl (n := T) (by omega) (v := nI (tm tab)) (h8) dX11_tell_75 ?_
      refine rn_icmp_ge (tgt := 166) hE dX11_tell_76 (by decide) (by omega) (by omega) (fun c76 => ?_) (fun c76 => ?_)
      · have hie : i = tm tab := by omega
        subst hie
        have hs29 : (sW 29).length = 10 := by decide
        have hs29b : sLen 29 = 10 := by decide
        refine lv_iload_n hE.1 hE.2.1 dX11_tell_166 rfl (lv_at hl 3 rfl) ?_
        refine rn_ifb_eq (tgt := 177) hE dX11_tell_167 (by decide) (fun c167 => ?_) (fun c167 => ?_)
        · have he := of_decide_eq_false c167
          refine lv_aload_n hE.1 hE.2.1 dX11_tell_177 rfl (lv_at hl 0 rfl) ?_
          refine lv_bipush (v := nI 10) hE.1 hE.2.1 dX11_tell_178 (by decide) ?_
          refine rg_VV (As := [.int (nI 10)]) (rest := []) hE hml hH mc_X11_290 (c_say l z G hG iv3 jv (tTx tab k ++ tab.2.1.getD ((rule tab).getD k (0, 0)).2 [] ++ tcI tab ((rule tab).getD k (0, 0)).1 (tm tab)) hO 10 (by decide) (by simp only [List.length_append]; omega)) hG.1.1 hG.1.2 (by decide) rfl ⟨Nat.le_of_ble_eq_true rfl, Nat.le_of_ble_eq_true rfl⟩ rfl hl.1 (by simp [Value.category]) dX11_tell_180 ⟨Nat.le_of_ble_eq_true rfl, Nat.le_of_ble_eq_true rfl⟩ (fun G180 iv180 jv180 H locs hp180 hH => ?_)
          obtain ⟨rfl, rfl, hO, hF180⟩ := hp180
          have hFr := hFr.tr hF180
          refine lv_iinc (v := nI (k + 1)) (lv' := [(2, .int (nI (k + 1))), (0, .ref (G.ad 0)), (1, .int (nI T)), (3, .int (bI (decide (tcI tab ((rule tab).getD k (0, 0)).1 (tm tab) = [])))), (4, .int (nI (tm tab)))]) hE.1 hE.2.1 dX11_tell_183 hl (k := 2) rfl (nI_1 _) (by decide) rfl (fun ls hl => ?_)
          refine lv_goto (tgt := 30) hE.1 hE.2.1 dX11_tell_186 (by decide) ?_
          exact ih30 (iv180, k + 1) _ _ _ (show (rule tab).length - (k + 1) < (rule tab).length - k by omega) ⟨by show k + 1 ≤ (rule tab).length; omega, by show mOu _ (tTx tab k ++ tLn tab ((rule tab).getD k (0, 0))); rw [tLn, if_neg he]; simpa only [List.append_assoc] using hO, hFr⟩ (lv_sub hl [1, 2, 0] rfl) hH
        · have he := of_decide_eq_true c167
          rw [he, List.append_nil] at hO
          refine lv_aload_n hE.1 hE.2.1 dX11_tell_170 rfl (lv_at hl 0 rfl) ?_
          refine rs_ldcw (i := 29) hE (by decide) rfl rfl dX11_tell_171 ?_
          refine rg_VV (As := [.ref (z.1 29)]) (rest := []) hE hml hH mc_X11_300 (c_sayText l z G hG iv3 jv (tTx tab k ++ tab.2.1.getD ((rule tab).getD k (0, 0)).2 []) hO 29 (by decide) (by simp only [List.length_append]; omega)) hG.1.1 hG.1.2 (by decide) rfl ⟨Nat.le_of_ble_eq_true rfl, Nat.le_of_ble_eq_true rfl⟩ rfl hl.1 (by simp [Value.category]) dX11_tell_174 ⟨Nat.le_of_ble_eq_true rfl, Nat.le_of_ble_eq_true rfl⟩ (fun G174 iv174 jv174 H locs hp174 hH => ?_)
          obtain ⟨rfl, rfl, hO, hF174⟩ := hp174
          have hFr := hFr.tr hF174
          refine lv_aload_n hE.1 hE.2.1 dX11_tell_177 rfl (lv_at hl 0 rfl) ?_
          refine lv_bipush (v := nI 10) hE.1 hE.2.1 dX11_tell_178 (by decide) ?_
          refine rg_VV (As := [.int (nI 10)]) (rest := []) hE hml hH mc_X11_290 (c_say l z G hG iv174 jv (tTx tab k ++ tab.2.1.getD ((rule tab).getD k (0, 0)).2 [] ++ sW 29) hO 10 (by decide) (by simp only [List.length_append]; omega)) hG.1.1 hG.1.2 (by decide) rfl ⟨Nat.le_of_ble_eq_true rfl, Nat.le_of_ble_eq_true rfl⟩ rfl hl.1 (by simp [Value.category]) dX11_tell_180 ⟨Nat.le_of_ble_eq_true rfl, Nat.le_of_ble_eq_true rfl⟩ (fun G180 iv180 jv180 H locs hp180 hH => ?_)
          obtain ⟨rfl, rfl, hO, hF180⟩ := hp180
          have hFr := hFr.tr hF180
          refine lv_iinc (v := nI (k + 1)) (lv' := [(2, .int (nI (k + 1))), (0, .ref (G.ad 0)), (1, .int (nI T)), (3, .int (bI (decide (tcI tab ((rule tab).getD k (0, 0)).1 (tm tab) = [])))), (4, .int (nI (tm tab)))]) hE.1 hE.2.1 dX11_tell_183 hl (k := 2) rfl (nI_1 _) (by decide) rfl (fun ls hl => ?_)
          refine lv_goto (tgt := 30) hE.1 hE.2.1 dX11_tell_186 (by decide) ?_
          exact ih30 (iv180, k + 1) _ _ _ (show (rule tab).length - (k + 1) < (rule tab).length - k by omega) ⟨by show k + 1 ≤ (rule tab).length; omega, by show mOu _ (tTx tab k ++ tLn tab ((rule tab).getD k (0, 0))); rw [tLn, if_pos he]; simpa only [List.append_assoc] using hO, hFr⟩ (lv_sub hl [1, 2, 0] rfl) hH
      · refine lv_aload_n hE.1 hE.2.1 dX11_tell_79 rfl (lv_at hl 0 rfl) ?_
        refine lv_iload_n hE.1 hE.2.1 dX11_tell_80 rfl (lv_at hl 1 rfl) ?_
        refine lv_aload_n hE.1 hE.2.1 dX11_tell_81 rfl (lv_at hl 0 rfl) ?_
        refine rm_getr hE hH hG fl_X11_69 rfl (by decide) dX11_tell_82 ?_
        refine lv_sipush (v := nI 400) hE.1 hE.2.1 dX11_tell_85 (by decide) ?_
        refine lv_iload_n hE.1 hE.2.1 dX11_tell_88 rfl (lv_at hl 1 rfl) ?_
        refine rn_imul hE dX11_tell_89 ?_
        refine lv_iload_n hE.1 hE.2.1 dX11_tell_90 rfl (lv_at hl 2 rfl) ?_
        refine rn_iadd hE dX11_tell_91 ?_
        refine rm_iald hE hH hG (k := 25) (by decide) rfl (N := 2400) rfl (n := 400 * T + k) (by omega) (v := nI (((rule tab).getD k (0, 0)).1)) ((hLY.2.1 k (by omega)).1) dX11_tell_92 ?_
        refine lv_iload hE.1 hE.2.1 dX11_tell_93 (lv_at hl 4 rfl) ?_
        refine rg_VI (As := [.int (nI T), .int (nI (((rule tab).getD k (0, 0)).1)), .int (nI i)]) (rest := []) hE hml hH mc_X11_250 (c_termAt l z G hG iv3 jv T hT tab hk hB (((rule tab).getD k (0, 0)).1) i (by omega) (by omega)) hG.1.1 hG.1.2 (by decide) rfl ⟨Nat.le_of_ble_eq_true rfl, Nat.le_of_ble_eq_true rfl⟩ rfl hl.1 (by simp [Value.category]) dX11_tell_95 ⟨Nat.le_of_ble_eq_true rfl, Nat.le_of_ble_eq_true rfl⟩ (fun r95 G95 iv95 jv95 H locs hp95 hH => ?_)
        obtain ⟨rfl, rfl, rfl, rfl⟩ := hp95
        refine lv_istore (lv' := [(5, .int (oI (tAt tab (((rule tab).getD k (0, 0)).1) i))), (0, .ref (G.ad 0)), (1, .int (nI T)), (2, .int (nI k)), (3, .int (bI (decide (tcI tab ((rule tab).getD k (0, 0)).1 i = [])))), (4, .int (nI i))]) hE.1 hE.2.1 dX11_tell_98 hl (by decide) rfl (fun ls hl => ?_)
        refine lv_iload hE.1 hE.2.1 dX11_tell_100 (lv_at hl 0 rfl) ?_
        refine lv_iconst (v := -1) hE.1 hE.2.1 dX11_tell_102 (by decide) ?_
        refine lv_icmp_ne (tgt := 109) hE.1 hE.2.1 dX11_tell_103 (by decide) (fun c103 => ?_) (fun c103 => ?_)
        · obtain ⟨q, hq⟩ := oI_som c103
          have hqv := tAt_lt hk (by omega) hq
          have hw2 := tabW_nm hTW (show i < tm tab by omega)
          have hw3 := tabW_v hTW (show i < tm tab by omega) hqv
          have hw28 := hw2.1
          have hw38 := hw3.1
          have hq6 := (hk.2.2.1 i (by omega)).2
          have hs26 : (sW 26).length = 4 := by decide
          have hs27 : (sW 27).length = 5 := by decide
          have hs28 : (sW 28).length = 4 := by decide
          have hs26b : sLen 26 = 4 := by decide
          have hs27b : sLen 27 = 5 := by decide
          have hs28b : sLen 28 = 4 := by decide
          have hl : lv_has ls 6 [(5, .int (nI q)), (0, .ref (G.ad 0)), (1, .int (nI T)), (2, .int (nI k)), (3, .int (bI (decide (tcI tab ((rule tab).getD k (0, 0)).1 i = [])))), (4, .int (nI i))] := by rw [hq] at hl; exact hl
          refine lv_aload_n hE.1 hE.2.1 dX11_tell_109 rfl (lv_at hl 1 rfl) ?_
          refine lv_iload_n hE.1 hE.2.1 dX11_tell_110 rfl (lv_at hl 4 rfl) ?_
          refine rn_ifb_eq (tgt := 120) hE dX11_tell_111 (by decide) (fun c111 => ?_) (fun c111 => ?_)
          · refine rs_ldcw (i := 27) hE (by decide) rfl rfl dX11_tell_120 ?_
            refine rg_VV (As := [.ref (z.1 27)]) (rest := []) hE hml hH mc_X11_300 (c_sayText l z G hG iv3 jv (tTx tab k ++ tab.2.1.getD ((rule tab).getD k (0, 0)).2 [] ++ tcI tab ((rule tab).getD k (0, 0)).1 i) hO 27 (by decide) (by simp only [List.length_append]; omega)) hG.1.1 hG.1.2 (by decide) rfl ⟨Nat.le_of_ble_eq_true rfl, Nat.le_of_ble_eq_true rfl⟩ rfl hl.1 (by simp [Value.category]) dX11_tell_123 ⟨Nat.le_of_ble_eq_true rfl, Nat.le_of_ble_eq_true rfl⟩ (fun G123 iv123 jv123 H locs hp123 hH => ?_)
            obtain ⟨rfl, rfl, hO, hF123⟩ := hp123
            have hFr := hFr.tr hF123
            have hTL2 : TL iv123 T tab := hTL.fr hFr
            have hFT := hTL2.1
            have hLY := hTL2.2
            have hB := hFT.1
            have hk := hFT.2.1
            have hA := hFT.2.2
            have h8 := hB.f.1
            have h10 := hB.f.2.1
            have h9 := hB.f.2.2.1
            have h13 := hB.f.2.2.2.1
            have h14 := hB.f.2.2.2.2.1
            have hm5 := hk.2.1
            have hm1 := hk.1
            have hC := hk.2.2.2.1
            have hR40 := hk.2.2.2.2.2.2.1
            refine lv_iconst (v := nI 0) hE.1 hE.2.1 dX11_tell_126 (by decide) ?_
            refine lv_istore_n (lv' := [(3, .int (nI 0)), (5, .int (nI q)), (0, .ref (G.ad 0)), (1, .int (nI T)), (2, .int (nI k)), (4, .int (nI i))]) hE.1 hE.2.1 dX11_tell_127 rfl hl (by decide) rfl (fun ls hl => ?_)
            refine lv_aload_n hE.1 hE.2.1 dX11_tell_128 rfl (lv_at hl 2 rfl) ?_
            refine lv_iload_n hE.1 hE.2.1 dX11_tell_129 rfl (lv_at hl 3 rfl) ?_
            refine lv_iload hE.1 hE.2.1 dX11_tell_130 (lv_at hl 5 rfl) ?_
            refine lv_iconst (v := nI 0) hE.1 hE.2.1 dX11_tell_132 (by decide) ?_
            refine rg_SI (As := [.int (nI T), .int (nI i), .int (nI 0)]) (rest := [.ref (G.ad 0)]) hE hml hH mc_X11_179 (c_wordAt l z G hG iv123 jv T i 0) rfl ⟨Nat.le_of_ble_eq_true rfl, Nat.le_of_ble_eq_true rfl⟩ rfl hl.1 (by simp [Value.category]) dX11_tell_133 ⟨Nat.le_of_ble_eq_true rfl, Nat.le_of_ble_eq_true rfl⟩ (fun r133 G133 iv133 jv133 H locs hp133 hH => ?_)
            obtain ⟨rfl, rfl, rfl, rfl⟩ := hp133
            refine rg_VV (As := [.int (nI (42 * T + 7 * i + 0))]) (rest := []) hE hml hH mc_X11_293 (c_sayWord l z G hG iv123 jv (tTx tab k ++ tab.2.1.getD ((rule tab).getD k (0, 0)).2 [] ++ tcI tab ((rule tab).getD k (0, 0)).1 i ++ sW 27) hO (42 * T + 7 * i + 0) (by omega) ((tab.1.getD i dC0).1) (hFT.nm (by omega)) (wOK_7 hw2) (by simp only [List.length_append]; omega)) hG.1.1 hG.1.2 (by decide) rfl ⟨Nat.le_of_ble_eq_true rfl, Nat.le_of_ble_eq_true rfl⟩ rfl hl.1 (by simp [Value.category]) dX11_tell_136 ⟨Nat.le_of_ble_eq_true rfl, Nat.le_of_ble_eq_true rfl⟩ (fun G136 iv136 jv136 H locs hp136 hH => ?_)
            obtain ⟨rfl, rfl, hO, hF136⟩ := hp136
            have hFr := hFr.tr hF136
            have hTL2 : TL iv136 T tab := hTL.fr hFr
            have hFT := hTL2.1
            have hLY := hTL2.2
            have hB := hFT.1
            have hk := hFT.2.1
            have hA := hFT.2.2
            have h8 := hB.f.1
            have h10 := hB.f.2.1
            have h9 := hB.f.2.2.1
            have h13 := hB.f.2.2.2.1
            have h14 := hB.f.2.2.2.2.1
            have hm5 := hk.2.1
            have hm1 := hk.1
            have hC := hk.2.2.2.1
            have hR40 := hk.2.2.2.2.2.2.1
            refine lv_aload_n hE.1 hE.2.1 dX11_tell_139 rfl (lv_at hl 2 rfl) ?_
            refine rs_ldcw (i := 28) hE (by decide) rfl rfl dX11_tell_140 ?_
            refine rg_VV (As := [.ref (z.1 28)]) (rest := []) hE hml hH mc_X11_300 (c_sayText l z G hG iv136 jv (tTx tab k ++ tab.2.1.getD ((rule tab).getD k (0, 0)).2 [] ++ tcI tab ((rule tab).getD k (0, 0)).1 i ++ sW 27 ++ (tab.1.getD i dC0).1) hO 28 (by decide) (by simp only [List.length_append]; omega)) hG.1.1 hG.1.2 (by decide) rfl ⟨Nat.le_of_ble_eq_true rfl, Nat.le_of_ble_eq_true rfl⟩ rfl hl.1 (by simp [Value.category]) dX11_tell_143 ⟨Nat.le_of_ble_eq_true rfl, Nat.le_of_ble_eq_true rfl⟩ (fun G143 iv143 jv143 H locs hp143 hH => ?_)
            obtain ⟨rfl, rfl, hO, hF143⟩ := hp143
            have hFr := hFr.tr hF143
            have hTL2 : TL iv143 T tab := hTL.fr hFr
            have hFT := hTL2.1
            have hLY := hTL2.2
            have hB := hFT.1
            have hk := hFT.2.1
            have hA := hFT.2.2
            have h8 := hB.f.1
            have h10 := hB.f.2.1
            have h9 := hB.f.2.2.1
            have h13 := hB.f.2.2.2.1
            have h14 := hB.f.2.2.2.2.1
            have hm5 := hk.2.1
            have hm1 := hk.1
            have hC := hk.2.2.2.1
            have hR40 := hk.2.2.2.2.2.2.1
            refine lv_aload_n hE.1 hE.2.1 dX11_tell_146 rfl (lv_at hl 2 rfl) ?_
            refine lv_iload_n hE.1 hE.2.1 dX11_tell_147 rfl (lv_at hl 3 rfl) ?_
            refine lv_iload hE.1 hE.2.1 dX11_tell_148 (lv_at hl 5 rfl) ?_
            refine lv_iconst (v := nI 1) hE.1 hE.2.1 dX11_tell_150 (by decide) ?_
            refine lv_iload hE.1 hE.2.1 dX11_tell_151 (lv_at hl 1 rfl) ?_
            refine rn_iadd hE dX11_tell_153 ?_
            refine rg_SI (As := [.int (nI T), .int (nI i), .int (nI (1 + q))]) (rest := [.ref (G.ad 0)]) hE hml hH mc_X11_179 (c_wordAt l z G hG iv143 jv T i (1 + q)) rfl ⟨Nat.le_of_ble_eq_true rfl, Nat.le_of_ble_eq_true rfl⟩ rfl hl.1 (by simp [Value.category]) dX11_tell_154 ⟨Nat.le_of_ble_eq_true rfl, Nat.le_of_ble_eq_true rfl⟩ (fun r154 G154 iv154 jv154 H locs hp154 hH => ?_)
            obtain ⟨rfl, rfl, rfl, rfl⟩ := hp154
            refine rg_VV (As := [.int (nI (42 * T + 7 * i + (1 + q)))]) (rest := []) hE hml hH mc_X11_293 (c_sayWord l z G hG iv143 jv (tTx tab k ++ tab.2.1.getD ((rule tab).getD k (0, 0)).2 [] ++ tcI tab ((rule tab).getD k (0, 0)).1 i ++ sW 27 ++ (tab.1.getD i dC0).1 ++ sW 28) hO (42 * T + 7 * i + (1 + q)) (by omega) ((tab.1.getD i dC0).2.getD q []) (hFT.vl (by omega) hqv) (wOK_7 hw3) (by simp only [List.length_append]; omega)) hG.1.1 hG.1.2 (by decide) rfl ⟨Nat.le_of_ble_eq_true rfl, Nat.le_of_ble_eq_true rfl⟩ rfl hl.1 (by simp [Value.category]) dX11_tell_157 ⟨Nat.le_of_ble_eq_true rfl, Nat.le_of_ble_eq_true rfl⟩ (fun G157 iv157 jv157 H locs hp157 hH => ?_)
            obtain ⟨rfl, rfl, hO, hF157⟩ := hp157
            have hFr := hFr.tr hF157
            have hl : lv_has ls 6 [(3, .int (bI (decide (tcI tab ((rule tab).getD k (0, 0)).1 (i + 1) = [])))), (5, .int (nI q)), (0, .ref (G.ad 0)), (1, .int (nI T)), (2, .int (nI k)), (4, .int (nI i))] := by rw [decide_eq_false (tcI_ne hq)]; exact hl
            refine lv_iinc (v := nI (i + 1)) (lv' := [(4, .int (nI (i + 1))), (3, .int (bI (decide (tcI tab ((rule tab).getD k (0, 0)).1 (i + 1) = [])))), (5, .int (nI q)), (0, .ref (G.ad 0)), (1, .int (nI T)), (2, .int (nI k))]) hE.1 hE.2.1 dX11_tell_160 hl (k := 5) rfl (nI_1 _) (by decide) rfl (fun ls hl => ?_)
            refine lv_goto (tgt := 68) hE.1 hE.2.1 dX11_tell_163 (by decide) ?_
            exact ih68 (iv157, i + 1) _ _ _ (show tm tab - (i + 1) < tm tab - i by omega) ⟨by show i + 1 ≤ tm tab; omega, by show mOu _ (_ ++ tcI tab _ (i + 1)); rw [tcI_s hq, if_neg (of_decide_eq_false c111)]; simpa only [List.append_assoc] using hO, hFr⟩ (lv_sub hl [3, 4, 5, 1, 0] rfl) hH
          · refine rs_ldcw (i := 26) hE (by decide) rfl rfl dX11_tell_114 ?_
            refine lv_goto (tgt := 123) hE.1 hE.2.1 dX11_tell_117 (by decide) ?_
            refine rg_VV (As := [.ref (z.1 26)]) (rest := []) hE hml hH mc_X11_300 (c_sayText l z G hG iv3 jv (tTx tab k ++ tab.2.1.getD ((rule tab).getD k (0, 0)).2 [] ++ tcI tab ((rule tab).getD k (0, 0)).1 i) hO 26 (by decide) (by simp only [List.length_append]; omega)) hG.1.1 hG.1.2 (by decide) rfl ⟨Nat.le_of_ble_eq_true rfl, Nat.le_of_ble_eq_true rfl⟩ rfl hl.1 (by simp [Value.category]) dX11_tell_123 ⟨Nat.le_of_ble_eq_true rfl, Nat.le_of_ble_eq_true rfl⟩ (fun G123 iv123 jv123 H locs hp123 hH => ?_)
            obtain ⟨rfl, rfl, hO, hF123⟩ := hp123
            have hFr := hFr.tr hF123
            have hTL2 : TL iv123 T tab := hTL.fr hFr
            have hFT := hTL2.1
            have hLY := hTL2.2
            have hB := hFT.1
            have hk := hFT.2.1
            have hA := hFT.2.2
            have h8 := hB.f.1
            have h10 := hB.f.2.1
            have h9 := hB.f.2.2.1
            have h13 := hB.f.2.2.2.1
            have h14 := hB.f.2.2.2.2.1
            have hm5 := hk.2.1
            have hm1 := hk.1
            have hC := hk.2.2.2.1
            have hR40 := hk.2.2.2.2.2.2.1
            refine lv_iconst (v := nI 0) hE.1 hE.2.1 dX11_tell_126 (by decide) ?_
            refine lv_istore_n (lv' := [(3, .int (nI 0)), (5, .int (nI q)), (0, .ref (G.ad 0)), (1, .int (nI T)), (2, .int (nI k)), (4, .int (nI i))]) hE.1 hE.2.1 dX11_tell_127 rfl hl (by decide) rfl (fun ls hl => ?_)
            refine lv_aload_n hE.1 hE.2.1 dX11_tell_128 rfl (lv_at hl 2 rfl) ?_
            refine lv_iload_n hE.1 hE.2.1 dX11_tell_129 rfl (lv_at hl 3 rfl) ?_
            refine lv_iload hE.1 hE.2.1 dX11_tell_130 (lv_at hl 5 rfl) ?_
            refine lv_iconst (v := nI 0) hE.1 hE.2.1 dX11_tell_132 (by decide) ?_
            refine rg_SI (As := [.int (nI T), .int (nI i), .int (nI 0)]) (rest := [.ref (G.ad 0)]) hE hml hH mc_X11_179 (c_wordAt l z G hG iv123 jv T i 0) rfl ⟨Nat.le_of_ble_eq_true rfl, Nat.le_of_ble_eq_true rfl⟩ rfl hl.1 (by simp [Value.category]) dX11_tell_133 ⟨Nat.le_of_ble_eq_true rfl, Nat.le_of_ble_eq_true rfl⟩ (fun r133 G133 iv133 jv133 H locs hp133 hH => ?_)
            obtain ⟨rfl, rfl, rfl, rfl⟩ := hp133
            refine rg_VV (As := [.int (nI (42 * T + 7 * i + 0))]) (rest := []) hE hml hH mc_X11_293 (c_sayWord l z G hG iv123 jv (tTx tab k ++ tab.2.1.getD ((rule tab).getD k (0, 0)).2 [] ++ tcI tab ((rule tab).getD k (0, 0)).1 i ++ sW 26) hO (42 * T + 7 * i + 0) (by omega) ((tab.1.getD i dC0).1) (hFT.nm (by omega)) (wOK_7 hw2) (by simp only [List.length_append]; omega)) hG.1.1 hG.1.2 (by decide) rfl ⟨Nat.le_of_ble_eq_true rfl, Nat.le_of_ble_eq_true rfl⟩ rfl hl.1 (by simp [Value.category]) dX11_tell_136 ⟨Nat.le_of_ble_eq_true rfl, Nat.le_of_ble_eq_true rfl⟩ (fun G136 iv136 jv136 H locs hp136 hH => ?_)
            obtain ⟨rfl, rfl, hO, hF136⟩ := hp136
            have hFr := hFr.tr hF136
            have hTL2 : TL iv136 T tab := hTL.fr hFr
            have hFT := hTL2.1
            have hLY := hTL2.2
            have hB := hFT.1
            have hk := hFT.2.1
            have hA := hFT.2.2
            have h8 := hB.f.1
            have h10 := hB.f.2.1
            have h9 := hB.f.2.2.1
            have h13 := hB.f.2.2.2.1
            have h14 := hB.f.2.2.2.2.1
            have hm5 := hk.2.1
            have hm1 := hk.1
            have hC := hk.2.2.2.1
            have hR40 := hk.2.2.2.2.2.2.1
            refine lv_aload_n hE.1 hE.2.1 dX11_tell_139 rfl (lv_at hl 2 rfl) ?_
            refine rs_ldcw (i := 28) hE (by decide) rfl rfl dX11_tell_140 ?_
            refine rg_VV (As := [.ref (z.1 28)]) (rest := []) hE hml hH mc_X11_300 (c_sayText l z G hG iv136 jv (tTx tab k ++ tab.2.1.getD ((rule tab).getD k (0, 0)).2 [] ++ tcI tab ((rule tab).getD k (0, 0)).1 i ++ sW 26 ++ (tab.1.getD i dC0).1) hO 28 (by decide) (by simp only [List.length_append]; omega)) hG.1.1 hG.1.2 (by decide) rfl ⟨Nat.le_of_ble_eq_true rfl, Nat.le_of_ble_eq_true rfl⟩ rfl hl.1 (by simp [Value.category]) dX11_tell_143 ⟨Nat.le_of_ble_eq_true rfl, Nat.le_of_ble_eq_true rfl⟩ (fun G143 iv143 jv143 H locs hp143 hH => ?_)
            obtain ⟨rfl, rfl, hO, hF143⟩ := hp143
            have hFr := hFr.tr hF143
            have hTL2 : TL iv143 T tab := hTL.fr hFr
            have hFT := hTL2.1
            have hLY := hTL2.2
            have hB := hFT.1
            have hk := hFT.2.1
            have hA := hFT.2.2
            have h8 := hB.f.1
            have h10 := hB.f.2.1
            have h9 := hB.f.2.2.1
            have h13 := hB.f.2.2.2.1
            have h14 := hB.f.2.2.2.2.1
            have hm5 := hk.2.1
            have hm1 := hk.1
            have hC := hk.2.2.2.1
            have hR40 := hk.2.2.2.2.2.2.1
            refine lv_aload_n hE.1 hE.2.1 dX11_tell_146 rfl (lv_at hl 2 rfl) ?_
            refine lv_iload_n hE.1 hE.2.1 dX11_tell_147 rfl (lv_at hl 3 rfl) ?_
            refine lv_iload hE.1 hE.2.1 dX11_tell_148 (lv_at hl 5 rfl) ?_
            refine lv_iconst (v := nI 1) hE.1 hE.2.1 dX11_tell_150 (by decide) ?_
            refine lv_iload hE.1 hE.2.1 dX11_tell_151 (lv_at hl 1 rfl) ?_
            refine rn_iadd hE dX11_tell_153 ?_
            refine rg_SI (As := [.int (nI T), .int (nI i), .int (nI (1 + q))]) (rest := [.ref (G.ad 0)]) hE hml hH mc_X11_179 (c_wordAt l z G hG iv143 jv T i (1 + q)) rfl ⟨Nat.le_of_ble_eq_true rfl, Nat.le_of_ble_eq_true rfl⟩ rfl hl.1 (by simp [Value.category]) dX11_tell_154 ⟨Nat.le_of_ble_eq_true rfl, Nat.le_of_ble_eq_true rfl⟩ (fun r154 G154 iv154 jv154 H locs hp154 hH => ?_)
            obtain ⟨rfl, rfl, rfl, rfl⟩ := hp154
            refine rg_VV (As := [.int (nI (42 * T + 7 * i + (1 + q)))]) (rest := []) hE hml hH mc_X11_293 (c_sayWord l z G hG iv143 jv (tTx tab k ++ tab.2.1.getD ((rule tab).getD k (0, 0)).2 [] ++ tcI tab ((rule tab).getD k (0, 0)).1 i ++ sW 26 ++ (tab.1.getD i dC0).1 ++ sW 28) hO (42 * T + 7 * i + (1 + q)) (by omega) ((tab.1.getD i dC0).2.getD q []) (hFT.vl (by omega) hqv) (wOK_7 hw3) (by simp only [List.length_append]; omega)) hG.1.1 hG.1.2 (by decide) rfl ⟨Nat.le_of_ble_eq_true rfl, Nat.le_of_ble_eq_true rfl⟩ rfl hl.1 (by simp [Value.category]) dX11_tell_157 ⟨Nat.le_of_ble_eq_true rfl, Nat.le_of_ble_eq_true rfl⟩ (fun G157 iv157 jv157 H locs hp157 hH => ?_)
            obtain ⟨rfl, rfl, hO, hF157⟩ := hp157
            have hFr := hFr.tr hF157
            have hl : lv_has ls 6 [(3, .int (bI (decide (tcI tab ((rule tab).getD k (0, 0)).1 (i + 1) = [])))), (5, .int (nI q)), (0, .ref (G.ad 0)), (1, .int (nI T)), (2, .int (nI k)), (4, .int (nI i))] := by rw [decide_eq_false (tcI_ne hq)]; exact hl
            refine lv_iinc (v := nI (i + 1)) (lv' := [(4, .int (nI (i + 1))), (3, .int (bI (decide (tcI tab ((rule tab).getD k (0, 0)).1 (i + 1) = [])))), (5, .int (nI q)), (0, .ref (G.ad 0)), (1, .int (nI T)), (2, .int (nI k))]) hE.1 hE.2.1 dX11_tell_160 hl (k := 5) rfl (nI_1 _) (by decide) rfl (fun ls hl => ?_)
            refine lv_goto (tgt := 68) hE.1 hE.2.1 dX11_tell_163 (by decide) ?_
            exact ih68 (iv157, i + 1) _ _ _ (show tm tab - (i + 1) < tm tab - i by omega) ⟨by show i + 1 ≤ tm tab; omega, by show mOu _ (_ ++ tcI tab _ (i + 1)); rw [tcI_s hq, if_pos (of_decide_eq_true c111)]; simpa only [List.append_assoc] using hO, hFr⟩ (lv_sub hl [3, 4, 5, 1, 0] rfl) hH
        · rw [oI_m1 (tAt_s hk (by omega))] at c103
          refine lv_goto (tgt := 160) hE.1 hE.2.1 dX11_tell_106 (by decide) ?_
          have hl : lv_has ls 6 [(5, .int (oI (tAt tab (((rule tab).getD k (0, 0)).1) i))), (0, .ref (G.ad 0)), (1, .int (nI T)), (2, .int (nI k)), (3, .int (bI (decide (tcI tab ((rule tab).getD k (0, 0)).1 (i + 1) = [])))), (4, .int (nI i))] := by rw [tcI_n c103]; exact hl
          refine lv_iinc (v := nI (i + 1)) (lv' := [(4, .int (nI (i + 1))), (5, .int (oI (tAt tab (((rule tab).getD k (0, 0)).1) i))), (0, .ref (G.ad 0)), (1, .int (nI T)), (2, .int (nI k)), (3, .int (bI (decide (tcI tab ((rule tab).getD k (0, 0)).1 (i + 1) = []))))]) hE.1 hE.2.1 dX11_tell_160 hl (k := 5) rfl (nI_1 _) (by decide) rfl (fun ls hl => ?_)
          refine lv_goto (tgt := 68) hE.1 hE.2.1 dX11_tell_163 (by decide) ?_
          exact ih68 (iv3, i + 1) _ _ _ (show tm tab - (i + 1) < tm tab - i by omega) ⟨by show i + 1 ≤ tm tab; omega, by show mOu _ (_ ++ tcI tab _ (i + 1)); rw [tcI_n c103]; exact hO, hFr⟩ (lv_sub hl [2, 3, 4, 5, 0] rfl) hH
  · refine lv_aload_n hE.1 hE.2.1 dX11_tell_13 rfl (lv_at hl 0 rfl) ?_
    refine rg_VI (As := []) (rest := []) hE hml hH mc_X11_215 (c_fail l z G hG iv1 jv) hG.1.1 hG.1.2 (by decide) rfl ⟨Nat.le_of_ble_eq_true rfl, Nat.le_of_ble_eq_true rfl⟩ rfl hl.1 (by simp [Value.category]) dX11_tell_14 ⟨Nat.le_of_ble_eq_true rfl, Nat.le_of_ble_eq_true rfl⟩ (fun r14 G14 iv14 jv14 H locs hp14 hH => ?_)
    obtain ⟨rfl, rfl, rfl, rfl⟩ := hp14
    exact rg_iret hE hr rfl hlk hH ⟨rfl, rfl, by rw [show spTell a t = no 1 a by rw [spTell, onK_f c10]]; exact ⟨rfl, rfl, hS.c0⟩, hF0.tr up0_M⟩ dX11_tell_17
