set_option maxRecDepth 100000 in
set_option maxHeartbeats 4000000 in
theorem c_term (l : Launch) (z : ZK) (G : GW) (hG : isM G) (iv : IV) (jv : JV) (a : AS) (hS : MSt iv a) (t ix x : Int32) : cI l z yX11_term cX11_term 4 (some .int) 4 103 0 0 [.ref (G.ad 0), .int (t), .int (ix), .int (x)] G iv jv (fun r G' iv' jv' => G = G' ∧ jv = jv' ∧ (iv' 0 0 = nI (spTerm a t ix x).1 ∧ r = (spTerm a t ix x).2.1 ∧ MSt iv' (spTerm a t ix x).2.2) ∧ Fr iv iv' pM) := by
  intro sz
  refine rg_entry rfl (Nat.le_of_ble_eq_true rfl) ?_
  intro pq eq sq mq bq methq cq ls hE hr hlk hml hnm hl hsz hH
  have hl : lv_has ls 4 [(0, .ref (G.ad 0)), (1, .int (t)), (2, .int (ix)), (3, .int (x))] := hl
  refine lv_aload_n hE.1 hE.2.1 dX11_term_0 rfl (lv_at hl 0 rfl) ?_
  refine lv_iconst (v := nI 0) hE.1 hE.2.1 dX11_term_1 (by decide) ?_
  refine rm_puti hE hH hG fl_X11_96 rfl fn_X11_0 (v := nI 0) dX11_term_2 (fun H locs hH => ?_)
  have hF0 : Fr iv (up2 iv 0 0 (nI 0)) pM := up0_M
  have hS : MSt (up2 iv 0 0 (nI 0)) a := hS.c0
  have h00 : (up2 iv 0 0 (nI 0)) 0 0 = nI 0 := rfl
  generalize up2 iv 0 0 (nI 0) = iv1 at hH hS hF0 h00
  have hS6 := hS.2.2.1.2.1
  have hS12 := hS.2.2.2.1.2.1
  have hS3 := hS.1.2.1
  have hSo := hS.2.2.2.2.2.1
  refine lv_aload_n hE.1 hE.2.1 dX11_term_5 rfl (lv_at hl 0 rfl) ?_
  refine lv_iload_n hE.1 hE.2.1 dX11_term_6 rfl (lv_at hl 1 rfl) ?_
  refine rg_VI (As := [.int (t)]) (rest := []) hE hml hH mc_X11_231 (c_isTable l z G hG iv1 jv t (aT a).length hS.2.2.1.1) hG.1.1 hG.1.2 (by decide) rfl ⟨Nat.le_of_ble_eq_true rfl, Nat.le_of_ble_eq_true rfl⟩ rfl hl.1 (by simp [Value.category]) dX11_term_7 ⟨Nat.le_of_ble_eq_true rfl, Nat.le_of_ble_eq_true rfl⟩ (fun r7 G7 iv7 jv7 H locs hp7 hH => ?_)
  obtain ⟨rfl, rfl, rfl, rfl⟩ := hp7
  refine rn_ifb_eq (tgt := 28) hE dX11_term_10 (by decide) (fun c10 => ?_) (fun c10 => ?_)
  · refine lv_aload_n hE.1 hE.2.1 dX11_term_28 rfl (lv_at hl 0 rfl) ?_
    refine rg_VI (As := []) (rest := []) hE hml hH mc_X11_215 (c_fail l z G hG iv1 jv) hG.1.1 hG.1.2 (by decide) rfl ⟨Nat.le_of_ble_eq_true rfl, Nat.le_of_ble_eq_true rfl⟩ rfl hl.1 (by simp [Value.category]) dX11_term_29 ⟨Nat.le_of_ble_eq_true rfl, Nat.le_of_ble_eq_true rfl⟩ (fun r29 G29 iv29 jv29 H locs hp29 hH => ?_)
    obtain ⟨rfl, rfl, rfl, rfl⟩ := hp29
    exact rg_iret hE hr rfl hlk hH ⟨rfl, rfl, by rw [show spTerm a t ix x = no 1 a by rw [spTerm, onK_f c10]]; exact ⟨rfl, rfl, hS.c0⟩, hF0.tr up0_M⟩ dX11_term_32
  · obtain ⟨T, hTl, rfl⟩ := inI_of (by omega) c10
    have hT : T < 6 := by omega
    obtain ⟨tab, htab⟩ : ∃ x, x = aTb a T := ⟨_, rfl⟩
    have hFT : FT iv1 T tab := by rw [htab]; exact (hS.2.2.1.2.2.1 T hTl).1
    have hTW : tabW tab := by rw [htab]; exact (hS.2.2.1.2.2.1 T hTl).2.1
    have hLD : LD iv1 T tab := by rw [htab]; exact (hS.2.2.1.2.2.1 T hTl).2.2
    have hB := hFT.1
    have hk := hFT.2.1
    have hA := hFT.2.2
    have h8 := hB.f.1
    have h10 := hB.f.2.1
    have h9 := hB.f.2.2.1
    have h13 := hB.f.2.2.2.1
    have h14 := hB.f.2.2.2.2.1
    have hm5 := hk.2.1
    have hm1 := hk.1
    have hC := hk.2.2.2.1
    have hR40 := hk.2.2.2.2.2.2.1
    refine lv_iload_n hE.1 hE.2.1 dX11_term_13 rfl (lv_at hl 3 rfl) ?_
    refine lv_iconst (v := -1) hE.1 hE.2.1 dX11_term_14 (by decide) ?_
    refine lv_icmp_lt (tgt := 28) hE.1 hE.2.1 dX11_term_15 (by decide) (fun c15 => ?_) (fun c15 => ?_)
    · refine lv_aload_n hE.1 hE.2.1 dX11_term_28 rfl (lv_at hl 0 rfl) ?_
      refine rg_VI (As := []) (rest := []) hE hml hH mc_X11_215 (c_fail l z G hG iv1 jv) hG.1.1 hG.1.2 (by decide) rfl ⟨Nat.le_of_ble_eq_true rfl, Nat.le_of_ble_eq_true rfl⟩ rfl hl.1 (by simp [Value.category]) dX11_term_29 ⟨Nat.le_of_ble_eq_true rfl, Nat.le_of_ble_eq_true rfl⟩ (fun r29 G29 iv29 jv29 H locs hp29 hH => ?_)
      obtain ⟨rfl, rfl, rfl, rfl⟩ := hp29
      exact rg_iret hE hr rfl hlk hH ⟨rfl, rfl, by rw [show spTerm a (nI T) ix x = no 1 a by rw [spTerm, onK_t hTl (by omega), ← htab, onK_no (fun j => onM_f (m1_lt c15).1 (inI_lt (m1_lt c15).2))]]; exact ⟨rfl, rfl, hS.c0⟩, hF0.tr up0_M⟩ dX11_term_32
    · refine lv_iload_n hE.1 hE.2.1 dX11_term_18 rfl (lv_at hl 3 rfl) ?_
      refine lv_aload_n hE.1 hE.2.1 dX11_term_19 rfl (lv_at hl 0 rfl) ?_
      refine rm_getr hE hH hG fl_X11_20 rfl (by decide) dX11_term_20 ?_
      refine lv_iload_n hE.1 hE.2.1 dX11_term_23 rfl (lv_at hl 1 rfl) ?_
      refine rm_iald hE hH hG (k := 8) (by decide) rfl (N := 6) rfl (n := T) (by omega) (v := nI (tm tab)) (h8) dX11_term_24 ?_
      refine lv_icmp_lt (tgt := 33) hE.1 hE.2.1 dX11_term_25 (by decide) (fun c25 => ?_) (fun c25 => ?_)
      · refine lv_aload_n hE.1 hE.2.1 dX11_term_33 rfl (lv_at hl 0 rfl) ?_
        refine lv_iload_n hE.1 hE.2.1 dX11_term_34 rfl (lv_at hl 1 rfl) ?_
        refine rg_VV (As := [.int (nI T)]) (rest := []) hE hml hH mc_X11_284 (c_lay l z G hG iv1 jv T hT tab hFT hLD) hG.1.1 hG.1.2 (by decide) rfl ⟨Nat.le_of_ble_eq_true rfl, Nat.le_of_ble_eq_true rfl⟩ rfl hl.1 (by simp [Value.category]) dX11_term_35 ⟨Nat.le_of_ble_eq_true rfl, Nat.le_of_ble_eq_true rfl⟩ (fun G35 iv35 jv35 H locs hp35 hH => ?_)
        obtain ⟨rfl, rfl, hLY, h23, hF35⟩ := hp35
        have hS := hS.lay hTl hF35 (by rw [← htab]; exact hLY) h23
        have hF0 := hF0.tr (hF35.mono (fun lb j h => by simp only [pLY, pM] at h ⊢; omega))
        have h00 : iv35 0 0 = nI 0 := (hF35 0 0 (by simp)).trans h00
        have hFT : FT iv35 T tab := by rw [htab]; exact (hS.2.2.1.2.2.1 T hTl).1
        have hB := hFT.1
        have hk := hFT.2.1
        have hA := hFT.2.2
        have h8 := hB.f.1
        have h10 := hB.f.2.1
        have h9 := hB.f.2.2.1
        have h13 := hB.f.2.2.2.1
        have h14 := hB.f.2.2.2.2.1
        have hm5 := hk.2.1
        have hm1 := hk.1
        have hC := hk.2.2.2.1
        have hR40 := hk.2.2.2.2.2.2.1
        have hrl := rule_len hk
        have hol := offers_len hk
        have htT8 := tT_le hk
        refine lv_iload_n hE.1 hE.2.1 dX11_term_38 rfl (lv_at hl 2 rfl) ?_
        refine lv_if_lt (tgt := 52) hE.1 hE.2.1 dX11_term_39 (by decide) (fun c39 => ?_) (fun c39 => ?_)
        · refine lv_aload_n hE.1 hE.2.1 dX11_term_52 rfl (lv_at hl 0 rfl) ?_
          refine rg_VI (As := []) (rest := []) hE hml hH mc_X11_215 (c_fail l z G hG iv35 jv) hG.1.1 hG.1.2 (by decide) rfl ⟨Nat.le_of_ble_eq_true rfl, Nat.le_of_ble_eq_true rfl⟩ rfl hl.1 (by simp [Value.category]) dX11_term_53 ⟨Nat.le_of_ble_eq_true rfl, Nat.le_of_ble_eq_true rfl⟩ (fun r53 G53 iv53 jv53 H locs hp53 hH => ?_)
          obtain ⟨rfl, rfl, rfl, rfl⟩ := hp53
          exact rg_iret hE hr rfl hlk hH ⟨rfl, rfl, by rw [show spTerm a (nI T) ix x = no 1 a by rw [spTerm, onK_t hTl (by omega), ← htab, onK_f (inI_lt c39)]]; exact ⟨rfl, rfl, hS.c0⟩, hF0.tr up0_M⟩ dX11_term_56
        · refine lv_iload_n hE.1 hE.2.1 dX11_term_42 rfl (lv_at hl 2 rfl) ?_
          refine lv_aload_n hE.1 hE.2.1 dX11_term_43 rfl (lv_at hl 0 rfl) ?_
          refine rm_getr hE hH hG fl_X11_66 rfl (by decide) dX11_term_44 ?_
          refine lv_iload_n hE.1 hE.2.1 dX11_term_47 rfl (lv_at hl 1 rfl) ?_
          refine rm_iald hE hH hG (k := 24) (by decide) rfl (N := 6) rfl (n := T) (by omega) (v := nI ((rule tab).length)) (hLY.1) dX11_term_48 ?_
          refine lv_icmp_lt (tgt := 57) hE.1 hE.2.1 dX11_term_49 (by decide) (fun c49 => ?_) (fun c49 => ?_)
          · obtain ⟨i, hi, rfl⟩ := inI_of (by omega) (inI_t c39 (lt_nle c49))
            refine lv_iload_n hE.1 hE.2.1 dX11_term_57 rfl (lv_at hl 3 rfl) ?_
            refine lv_iconst (v := -1) hE.1 hE.2.1 dX11_term_58 (by decide) ?_
            refine lv_icmp_ne (tgt := 77) hE.1 hE.2.1 dX11_term_59 (by decide) (fun c59 => ?_) (fun c59 => ?_)
            · obtain ⟨k, hk3, rfl⟩ := m1_in (by omega) c15 c25 c59
              have hrb := rule_lt hi
              refine lv_aload_n hE.1 hE.2.1 dX11_term_77 rfl (lv_at hl 0 rfl) ?_
              refine lv_iload_n hE.1 hE.2.1 dX11_term_78 rfl (lv_at hl 1 rfl) ?_
              refine lv_aload_n hE.1 hE.2.1 dX11_term_79 rfl (lv_at hl 0 rfl) ?_
              refine rm_getr hE hH hG fl_X11_69 rfl (by decide) dX11_term_80 ?_
              refine lv_sipush (v := nI 400) hE.1 hE.2.1 dX11_term_83 (by decide) ?_
              refine lv_iload_n hE.1 hE.2.1 dX11_term_86 rfl (lv_at hl 1 rfl) ?_
              refine rn_imul hE dX11_term_87 ?_
              refine lv_iload_n hE.1 hE.2.1 dX11_term_88 rfl (lv_at hl 2 rfl) ?_
              refine rn_iadd hE dX11_term_89 ?_
              refine rm_iald hE hH hG (k := 25) (by decide) rfl (N := 2400) rfl (n := 400 * T + i) (by omega) (v := nI (((rule tab).getD i (0, 0)).1)) ((hLY.2.1 i hi).1) dX11_term_90 ?_
              refine lv_iload_n hE.1 hE.2.1 dX11_term_91 rfl (lv_at hl 3 rfl) ?_
              refine rg_VI (As := [.int (nI T), .int (nI (((rule tab).getD i (0, 0)).1)), .int (nI k)]) (rest := []) hE hml hH mc_X11_250 (c_termAt l z G hG iv35 jv T hT tab hk hB (((rule tab).getD i (0, 0)).1) k (by omega) (by omega)) hG.1.1 hG.1.2 (by decide) rfl ⟨Nat.le_of_ble_eq_true rfl, Nat.le_of_ble_eq_true rfl⟩ rfl hl.1 (by simp [Value.category]) dX11_term_92 ⟨Nat.le_of_ble_eq_true rfl, Nat.le_of_ble_eq_true rfl⟩ (fun r92 G92 iv92 jv92 H locs hp92 hH => ?_)
              obtain ⟨rfl, rfl, rfl, rfl⟩ := hp92
              exact rg_iret hE hr rfl hlk hH ⟨rfl, rfl, by rw [show spTerm a (nI T) (nI i) (nI k) = ok (oI (tAt tab (((rule tab).getD i (0, 0)).1) k)) a by rw [spTerm, onK_t hTl (by omega), ← htab, onK_t hi (by omega), onM_s hk3 (by omega)]]; exact ⟨h00, rfl, hS⟩, hF0⟩ dX11_term_95
            · refine lv_aload_n hE.1 hE.2.1 dX11_term_62 rfl (lv_at hl 0 rfl) ?_
              refine rm_getr hE hH hG fl_X11_72 rfl (by decide) dX11_term_63 ?_
              refine lv_sipush (v := nI 400) hE.1 hE.2.1 dX11_term_66 (by decide) ?_
              refine lv_iload_n hE.1 hE.2.1 dX11_term_69 rfl (lv_at hl 1 rfl) ?_
              refine rn_imul hE dX11_term_70 ?_
              refine lv_iload_n hE.1 hE.2.1 dX11_term_71 rfl (lv_at hl 2 rfl) ?_
              refine rn_iadd hE dX11_term_72 ?_
              refine rm_iald hE hH hG (k := 26) (by decide) rfl (N := 2400) rfl (n := 400 * T + i) (by omega) (v := nI (((rule tab).getD i (0, 0)).2)) ((hLY.2.1 i hi).2) dX11_term_73 ?_
              refine lv_goto (tgt := 95) hE.1 hE.2.1 dX11_term_74 (by decide) ?_
              exact rg_iret hE hr rfl hlk hH ⟨rfl, rfl, by rw [show spTerm a (nI T) (nI i) x = ok (nI (((rule tab).getD i (0, 0)).2)) a by rw [spTerm, onK_t hTl (by omega), ← htab, onK_t hi (by omega), onM_n c59]]; exact ⟨h00, rfl, hS⟩, hF0⟩ dX11_term_95
          · refine lv_aload_n hE.1 hE.2.1 dX11_term_52 rfl (lv_at hl 0 rfl) ?_
            refine rg_VI (As := []) (rest := []) hE hml hH mc_X11_215 (c_fail l z G hG iv35 jv) hG.1.1 hG.1.2 (by decide) rfl ⟨Nat.le_of_ble_eq_true rfl, Nat.le_of_ble_eq_true rfl⟩ rfl hl.1 (by simp [Value.category]) dX11_term_53 ⟨Nat.le_of_ble_eq_true rfl, Nat.le_of_ble_eq_true rfl⟩ (fun r53 G53 iv53 jv53 H locs hp53 hH => ?_)
            obtain ⟨rfl, rfl, rfl, rfl⟩ := hp53
            exact rg_iret hE hr rfl hlk hH ⟨rfl, rfl, by rw [show spTerm a (nI T) ix x = no 1 a by rw [spTerm, onK_t hTl (by omega), ← htab, onK_f (inI_ge (nlt_le c49))]]; exact ⟨rfl, rfl, hS.c0⟩, hF0.tr up0_M⟩ dX11_term_56
      · refine lv_aload_n hE.1 hE.2.1 dX11_term_28 rfl (lv_at hl 0 rfl) ?_
        refine rg_VI (As := []) (rest := []) hE hml hH mc_X11_215 (c_fail l z G hG iv1 jv) hG.1.1 hG.1.2 (by decide) rfl ⟨Nat.le_of_ble_eq_true rfl, Nat.le_of_ble_eq_true rfl⟩ rfl hl.1 (by simp [Value.category]) dX11_term_29 ⟨Nat.le_of_ble_eq_true rfl, Nat.le_of_ble_eq_true rfl⟩ (fun r29 G29 iv29 jv29 H locs hp29 hH => ?_)
        obtain ⟨rfl, rfl, rfl, rfl⟩ := hp29
        exact rg_iret hE hr rfl hlk hH ⟨rfl, rfl, by rw [show spTerm a (nI T) ix x = no 1 a by rw [spTerm, onK_t hTl (by omega), ← htab, onK_no (fun j => onM_f (m1_ge (by omega) c25) (inI_ge (nlt_le c25)))]]; exact ⟨rfl, rfl, hS.c0⟩, hF0.tr up0_M⟩ dX11_term_32
set_option maxRecDepth 100000 in
set_option maxHeartbeats 4000000 in
theorem c_offered (l : Launch) (z : ZK) (G : GW) (hG : isM G) (iv : IV) (jv : JV) (a : AS) (hS : MSt iv a) (t ix x : Int32) : cI l z yX11_offered cX11_offered 7 (some .int) 4 103 0 0 [.ref (G.ad 0), .int (t), .int (ix), .int (x)] G iv jv (fun r G' iv' jv' => G = G' ∧ jv = jv' ∧ (iv' 0 0 = nI (spOffered a t ix x).1 ∧ r = (spOffered a t ix x).2.1 ∧ MSt iv' (spOffered a t ix x).2.2) ∧ Fr iv iv' pM) := by
  intro sz
  refine rg_entry rfl (Nat.le_of_ble_eq_true rfl) ?_
  intro pq eq sq mq bq methq cq ls hE hr hlk hml hnm hl hsz hH
  have hl : lv_has ls 7 [(0, .ref (G.ad 0)), (1, .int (t)), (2, .int (ix)), (3, .int (x))] := hl
  refine lv_aload_n hE.1 hE.2.1 dX11_offered_0 rfl (lv_at hl 0 rfl) ?_
  refine lv_iconst (v := nI 0) hE.1 hE.2.1 dX11_offered_1 (by decide) ?_
  refine rm_puti hE hH hG fl_X11_96 rfl fn_X11_0 (v := nI 0) dX11_offered_2 (fun H locs hH => ?_)
  have hF0 : Fr iv (up2 iv 0 0 (nI 0)) pM := up0_M
  have hS : MSt (up2 iv 0 0 (nI 0)) a := hS.c0
  have h00 : (up2 iv 0 0 (nI 0)) 0 0 = nI 0 := rfl
  generalize up2 iv 0 0 (nI 0) = iv1 at hH hS hF0 h00
  have hS6 := hS.2.2.1.2.1
  have hS12 := hS.2.2.2.1.2.1
  have hS3 := hS.1.2.1
  have hSo := hS.2.2.2.2.2.1
  refine lv_aload_n hE.1 hE.2.1 dX11_offered_5 rfl (lv_at hl 0 rfl) ?_
  refine lv_iload_n hE.1 hE.2.1 dX11_offered_6 rfl (lv_at hl 1 rfl) ?_
  refine rg_VI (As := [.int (t)]) (rest := []) hE hml hH mc_X11_231 (c_isTable l z G hG iv1 jv t (aT a).length hS.2.2.1.1) hG.1.1 hG.1.2 (by decide) rfl ⟨Nat.le_of_ble_eq_true rfl, Nat.le_of_ble_eq_true rfl⟩ rfl hl.1 (by simp [Value.category]) dX11_offered_7 ⟨Nat.le_of_ble_eq_true rfl, Nat.le_of_ble_eq_true rfl⟩ (fun r7 G7 iv7 jv7 H locs hp7 hH => ?_)
  obtain ⟨rfl, rfl, rfl, rfl⟩ := hp7
  refine rn_ifb_eq (tgt := 28) hE dX11_offered_10 (by decide) (fun c10 => ?_) (fun c10 => ?_)
  · refine lv_aload_n hE.1 hE.2.1 dX11_offered_28 rfl (lv_at hl 0 rfl) ?_
    refine rg_VI (As := []) (rest := []) hE hml hH mc_X11_215 (c_fail l z G hG iv1 jv) hG.1.1 hG.1.2 (by decide) rfl ⟨Nat.le_of_ble_eq_true rfl, Nat.le_of_ble_eq_true rfl⟩ rfl hl.1 (by simp [Value.category]) dX11_offered_29 ⟨Nat.le_of_ble_eq_true rfl, Nat.le_of_ble_eq_true rfl⟩ (fun r29 G29 iv29 jv29 H locs hp29 hH => ?_)
    obtain ⟨rfl, rfl, rfl, rfl⟩ := hp29
    exact rg_iret hE hr rfl hlk hH ⟨rfl, rfl, by rw [show spOffered a t ix x = no 1 a by rw [spOffered, onK_f c10]]; exact ⟨rfl, rfl, hS.c0⟩, hF0.tr up0_M⟩ dX11_offered_32
  · obtain ⟨T, hTl, rfl⟩ := inI_of (by omega) c10
    have hT : T < 6 := by omega
    obtain ⟨tab, htab⟩ : ∃ x, x = aTb a T := ⟨_, rfl⟩
    have hFT : FT iv1 T tab := by rw [htab]; exact (hS.2.2.1.2.2.1 T hTl).1
    have hTW : tabW tab := by rw [htab]; exact (hS.2.2.1.2.2.1 T hTl).2.1
    have hLD : LD iv1 T tab := by rw [htab]; exact (hS.2.2.1.2.2.1 T hTl).2.2
    have hB := hFT.1
    have hk := hFT.2.1
    have hA := hFT.2.2
    have h8 := hB.f.1
    have h10 := hB.f.2.1
    have h9 := hB.f.2.2.1
    have h13 := hB.f.2.2.2.1
    have h14 := hB.f.2.2.2.2.1
    have hm5 := hk.2.1
    have hm1 := hk.1
    have hC := hk.2.2.2.1
    have hR40 := hk.2.2.2.2.2.2.1
    refine lv_iload_n hE.1 hE.2.1 dX11_offered_13 rfl (lv_at hl 3 rfl) ?_
    refine lv_iconst (v := -1) hE.1 hE.2.1 dX11_offered_14 (by decide) ?_
    refine lv_icmp_lt (tgt := 28) hE.1 hE.2.1 dX11_offered_15 (by decide) (fun c15 => ?_) (fun c15 => ?_)
    · refine lv_aload_n hE.1 hE.2.1 dX11_offered_28 rfl (lv_at hl 0 rfl) ?_
      refine rg_VI (As := []) (rest := []) hE hml hH mc_X11_215 (c_fail l z G hG iv1 jv) hG.1.1 hG.1.2 (by decide) rfl ⟨Nat.le_of_ble_eq_true rfl, Nat.le_of_ble_eq_true rfl⟩ rfl hl.1 (by simp [Value.category]) dX11_offered_29 ⟨Nat.le_of_ble_eq_true rfl, Nat.le_of_ble_eq_true rfl⟩ (fun r29 G29 iv29 jv29 H locs hp29 hH => ?_)
      obtain ⟨rfl, rfl, rfl, rfl⟩ := hp29
      exact rg_iret hE hr rfl hlk hH ⟨rfl, rfl, by rw [show spOffered a (nI T) ix x = no 1 a by rw [spOffered, onK_t hTl (by omega), ← htab, onK_no (fun j => onM_f (m1_lt c15).1 (inI_lt (m1_lt c15).2))]]; exact ⟨rfl, rfl, hS.c0⟩, hF0.tr up0_M⟩ dX11_offered_32
    · refine lv_iload_n hE.1 hE.2.1 dX11_offered_18 rfl (lv_at hl 3 rfl) ?_
      refine lv_aload_n hE.1 hE.2.1 dX11_offered_19 rfl (lv_at hl 0 rfl) ?_
      refine rm_getr hE hH hG fl_X11_20 rfl (by decide) dX11_offered_20 ?_
      refine lv_iload_n hE.1 hE.2.1 dX11_offered_23 rfl (lv_at hl 1 rfl) ?_
      refine rm_iald hE hH hG (k := 8) (by decide) rfl (N := 6) rfl (n := T) (by omega) (v := nI (tm tab)) (h8) dX11_offered_24 ?_
      refine lv_icmp_lt (tgt := 33) hE.1 hE.2.1 dX11_offered_25 (by decide) (fun c25 => ?_) (fun c25 => ?_)
      · refine lv_aload_n hE.1 hE.2.1 dX11_offered_33 rfl (lv_at hl 0 rfl) ?_
        refine lv_iload_n hE.1 hE.2.1 dX11_offered_34 rfl (lv_at hl 1 rfl) ?_
        refine rg_VV (As := [.int (nI T)]) (rest := []) hE hml hH mc_X11_284 (c_lay l z G hG iv1 jv T hT tab hFT hLD) hG.1.1 hG.1.2 (by decide) rfl ⟨Nat.le_of_ble_eq_true rfl, Nat.le_of_ble_eq_true rfl⟩ rfl hl.1 (by simp [Value.category]) dX11_offered_35 ⟨Nat.le_of_ble_eq_true rfl, Nat.le_of_ble_eq_true rfl⟩ (fun G35 iv35 jv35 H locs hp35 hH => ?_)
        obtain ⟨rfl, rfl, hLY, h23, hF35⟩ := hp35
        have hS := hS.lay hTl hF35 (by rw [← htab]; exact hLY) h23
        have hF0 := hF0.tr (hF35.mono (fun lb j h => by simp only [pLY, pM] at h ⊢; omega))
        have h00 : iv35 0 0 = nI 0 := (hF35 0 0 (by simp)).trans h00
        have hFT : FT iv35 T tab := by rw [htab]; exact (hS.2.2.1.2.2.1 T hTl).1
        have hB := hFT.1
        have hk := hFT.2.1
        have hA := hFT.2.2
        have h8 := hB.f.1
        have h10 := hB.f.2.1
        have h9 := hB.f.2.2.1
        have h13 := hB.f.2.2.2.1
        have h14 := hB.f.2.2.2.2.1
        have hm5 := hk.2.1
        have hm1 := hk.1
        have hC := hk.2.2.2.1
        have hR40 := hk.2.2.2.2.2.2.1
        have hrl := rule_len hk
        have hol := offers_len hk
        have htT8 := tT_le hk
        refine lv_iload_n hE.1 hE.2.1 dX11_offered_38 rfl (lv_at hl 2 rfl) ?_
        refine lv_if_lt (tgt := 52) hE.1 hE.2.1 dX11_offered_39 (by decide) (fun c39 => ?_) (fun c39 => ?_)
        · refine lv_aload_n hE.1 hE.2.1 dX11_offered_52 rfl (lv_at hl 0 rfl) ?_
          refine rg_VI (As := []) (rest := []) hE hml hH mc_X11_215 (c_fail l z G hG iv35 jv) hG.1.1 hG.1.2 (by decide) rfl ⟨Nat.le_of_ble_eq_true rfl, Nat.le_of_ble_eq_true rfl⟩ rfl hl.1 (by simp [Value.category]) dX11_offered_53 ⟨Nat.le_of_ble_eq_true rfl, Nat.le_of_ble_eq_true rfl⟩ (fun r53 G53 iv53 jv53 H locs hp53 hH => ?_)
          obtain ⟨rfl, rfl, rfl, rfl⟩ := hp53
          exact rg_iret hE hr rfl hlk hH ⟨rfl, rfl, by rw [show spOffered a (nI T) ix x = no 1 a by rw [spOffered, onK_t hTl (by omega), ← htab, onK_f (inI_lt c39)]]; exact ⟨rfl, rfl, hS.c0⟩, hF0.tr up0_M⟩ dX11_offered_56
        · refine lv_iload_n hE.1 hE.2.1 dX11_offered_42 rfl (lv_at hl 2 rfl) ?_
          refine lv_aload_n hE.1 hE.2.1 dX11_offered_43 rfl (lv_at hl 0 rfl) ?_
          refine rm_getr hE hH hG fl_X11_75 rfl (by decide) dX11_offered_44 ?_
          refine lv_iload_n hE.1 hE.2.1 dX11_offered_47 rfl (lv_at hl 1 rfl) ?_
          refine rm_iald hE hH hG (k := 27) (by decide) rfl (N := 6) rfl (n := T) (by omega) (v := nI ((offers tab).length)) (hLY.2.2.1) dX11_offered_48 ?_
          refine lv_icmp_lt (tgt := 57) hE.1 hE.2.1 dX11_offered_49 (by decide) (fun c49 => ?_) (fun c49 => ?_)
          · obtain ⟨i, hi, rfl⟩ := inI_of (by omega) (inI_t c39 (lt_nle c49))
            refine lv_aload_n hE.1 hE.2.1 dX11_offered_57 rfl (lv_at hl 0 rfl) ?_
            refine rm_getr hE hH hG fl_X11_78 rfl (by decide) dX11_offered_58 ?_
            refine lv_sipush (v := nI 400) hE.1 hE.2.1 dX11_offered_61 (by decide) ?_
            refine lv_iload_n hE.1 hE.2.1 dX11_offered_64 rfl (lv_at hl 1 rfl) ?_
            refine rn_imul hE dX11_offered_65 ?_
            refine lv_iload_n hE.1 hE.2.1 dX11_offered_66 rfl (lv_at hl 2 rfl) ?_
            refine rn_iadd hE dX11_offered_67 ?_
            have hrb := offers_lt hi
            refine rm_iald hE hH hG (k := 28) (by decide) rfl (N := 2400) rfl (n := 400 * T + i) (by omega) (v := nI ((offers tab).getD i 0)) (hLY.2.2.2 i hi) dX11_offered_68 ?_
            refine lv_istore (lv' := [(4, .int (nI ((offers tab).getD i 0))), (0, .ref (G.ad 0)), (1, .int (nI T)), (2, .int (nI i)), (3, .int (x))]) hE.1 hE.2.1 dX11_offered_69 hl (by decide) rfl (fun ls hl => ?_)
            refine lv_iload_n hE.1 hE.2.1 dX11_offered_71 rfl (lv_at hl 4 rfl) ?_
            refine lv_iconst (v := -1) hE.1 hE.2.1 dX11_offered_72 (by decide) ?_
            refine lv_icmp_eq (tgt := 85) hE.1 hE.2.1 dX11_offered_73 (by decide) (fun c73 => ?_) (fun c73 => ?_)
            · refine lv_iconst (v := nI 1) hE.1 hE.2.1 dX11_offered_85 (by decide) ?_
              refine lv_istore (lv' := [(5, .int (nI 1)), (4, .int (nI ((offers tab).getD i 0))), (0, .ref (G.ad 0)), (1, .int (nI T)), (2, .int (nI i)), (3, .int (x))]) hE.1 hE.2.1 dX11_offered_86 hl (by decide) rfl (fun ls hl => ?_)
              refine lv_iconst (v := nI 0) hE.1 hE.2.1 dX11_offered_88 (by decide) ?_
              refine lv_istore (lv' := [(6, .int (nI 0)), (5, .int (nI 1)), (4, .int (nI ((offers tab).getD i 0))), (0, .ref (G.ad 0)), (1, .int (nI T)), (2, .int (nI i)), (3, .int (x))]) hE.1 hE.2.1 dX11_offered_89 hl (by decide) rfl (fun ls hl => ?_)
              refine rg_loop (σ := Nat) (nL := 7) (fun (k : Nat) => tm tab - k) (fun (k : Nat) => [(0, .ref (G.ad 0)), (1, .int (nI T)), (4, .int (nI ((offers tab).getD i 0))), (5, .int (nI (prd (fun k => if tAt tab ((offers tab).getD i 0) k = none then tf tab k else 1) k))), (6, .int (nI k))]) (fun (k : Nat) => G) (fun (k : Nat) => iv35) (fun (k : Nat) => jv) (fun (k : Nat) => k ≤ tm tab) ?_ (0) (Nat.zero_le _) (lv_sub hl [3, 4, 2, 1, 0] rfl) hH
              rintro k H locs ls hkm hl hH ih91
              try dsimp only at hl hH ih91
              refine lv_iload hE.1 hE.2.1 dX11_offered_91 (lv_at hl 4 rfl) ?_
              refine lv_aload_n hE.1 hE.2.1 dX11_offered_93 rfl (lv_at hl 0 rfl) ?_
              refine rm_getr hE hH hG fl_X11_20 rfl (by decide) dX11_offered_94 ?_
              refine lv_iload_n hE.1 hE.2.1 dX11_offered_97 rfl (lv_at hl 1 rfl) ?_
              refine rm_iald hE hH hG (k := 8) (by decide) rfl (N := 6) rfl (n := T) (by omega) (v := nI (tm tab)) (h8) dX11_offered_98 ?_
              refine rn_icmp_ge (tgt := 142) hE dX11_offered_99 (by decide) (by omega) (by omega) (fun c99 => ?_) (fun c99 => ?_)
              · have hke : k = tm tab := by omega
                subst hke
                refine lv_iload hE.1 hE.2.1 dX11_offered_142 (lv_at hl 3 rfl) ?_
                exact rg_iret hE hr rfl hlk hH ⟨rfl, rfl, by rw [show spOffered a (nI T) (nI i) x = ok (nI (held tab ((offers tab).getD i 0))) a by rw [spOffered, onK_t hTl (by omega), ← htab, onK_t hi (by omega), onM_n c73]]; exact ⟨h00, rfl, hS⟩, hF0⟩ dX11_offered_144
              · refine lv_iload hE.1 hE.2.1 dX11_offered_102 (lv_at hl 3 rfl) ?_
                refine lv_aload_n hE.1 hE.2.1 dX11_offered_104 rfl (lv_at hl 0 rfl) ?_
                refine lv_iload_n hE.1 hE.2.1 dX11_offered_105 rfl (lv_at hl 1 rfl) ?_
                refine lv_iload hE.1 hE.2.1 dX11_offered_106 (lv_at hl 2 rfl) ?_
                refine lv_iload hE.1 hE.2.1 dX11_offered_108 (lv_at hl 4 rfl) ?_
                refine rg_VI (As := [.int (nI T), .int (nI ((offers tab).getD i 0)), .int (nI k)]) (rest := [.int (nI (prd (fun k => if tAt tab ((offers tab).getD i 0) k = none then tf tab k else 1) k))]) hE hml hH mc_X11_250 (c_termAt l z G hG iv35 jv T hT tab hk hB ((offers tab).getD i 0) k (by omega) (by omega)) hG.1.1 hG.1.2 (by decide) rfl ⟨Nat.le_of_ble_eq_true rfl, Nat.le_of_ble_eq_true rfl⟩ rfl hl.1 (by simp [Value.category]) dX11_offered_110 ⟨Nat.le_of_ble_eq_true rfl, Nat.le_of_ble_eq_true rfl⟩ (fun r110 G110 iv110 jv110 H locs hp110 hH => ?_)
                obtain ⟨rfl, rfl, rfl, rfl⟩ := hp110
                refine lv_iconst (v := -1) hE.1 hE.2.1 dX11_offered_113 (by decide) ?_
                refine lv_icmp_ne (tgt := 132) hE.1 hE.2.1 dX11_offered_114 (by decide) (fun c114 => ?_) (fun c114 => ?_)
                · obtain ⟨q, hq⟩ := oI_som c114
                  refine lv_iconst (v := nI 1) hE.1 hE.2.1 dX11_offered_132 (by decide) ?_
                  refine rn_imul hE dX11_offered_133 ?_
                  refine lv_istore (lv' := [(5, .int (nI ((prd (fun k => if tAt tab ((offers tab).getD i 0) k = none then tf tab k else 1) k) * 1))), (0, .ref (G.ad 0)), (1, .int (nI T)), (4, .int (nI ((offers tab).getD i 0))), (6, .int (nI k))]) hE.1 hE.2.1 dX11_offered_134 hl (by decide) rfl (fun ls hl => ?_)
                  have hl : lv_has ls 7 [(5, .int (nI (prd (fun k => if tAt tab ((offers tab).getD i 0) k = none then tf tab k else 1) (k + 1)))), (0, .ref (G.ad 0)), (1, .int (nI T)), (4, .int (nI ((offers tab).getD i 0))), (6, .int (nI k))] := by rw [prd, if_neg (by rw [hq]; simp)]; exact hl
                  refine lv_iinc (v := nI (k + 1)) (lv' := [(6, .int (nI (k + 1))), (5, .int (nI (prd (fun k => if tAt tab ((offers tab).getD i 0) k = none then tf tab k else 1) (k + 1)))), (0, .ref (G.ad 0)), (1, .int (nI T)), (4, .int (nI ((offers tab).getD i 0)))]) hE.1 hE.2.1 dX11_offered_136 hl (k := 4) rfl (nI_1 _) (by decide) rfl (fun ls hl => ?_)
                  refine lv_goto (tgt := 91) hE.1 hE.2.1 dX11_offered_139 (by decide) ?_
                  exact ih91 (k + 1) _ _ _ (by omega) (by omega) (lv_sub hl [2, 3, 4, 1, 0] rfl) hH
                · rw [oI_m1 (tAt_s hk (by omega))] at c114
                  refine lv_aload_n hE.1 hE.2.1 dX11_offered_117 rfl (lv_at hl 0 rfl) ?_
                  refine rm_getr hE hH hG fl_X11_26 rfl (by decide) dX11_offered_118 ?_
                  refine lv_bipush (v := nI 6) hE.1 hE.2.1 dX11_offered_121 (by decide) ?_
                  refine lv_iload_n hE.1 hE.2.1 dX11_offered_123 rfl (lv_at hl 1 rfl) ?_
                  refine rn_imul hE dX11_offered_124 ?_
                  refine lv_iload hE.1 hE.2.1 dX11_offered_125 (lv_at hl 4 rfl) ?_
                  refine rn_iadd hE dX11_offered_127 ?_
                  refine rm_iald hE hH hG (k := 10) (by decide) rfl (N := 36) rfl (n := 6 * T + k) (by omega) (v := nI (tf tab k)) (h10 k (by omega)) dX11_offered_128 ?_
                  refine lv_goto (tgt := 133) hE.1 hE.2.1 dX11_offered_129 (by decide) ?_
                  refine rn_imul hE dX11_offered_133 ?_
                  refine lv_istore (lv' := [(5, .int (nI ((prd (fun k => if tAt tab ((offers tab).getD i 0) k = none then tf tab k else 1) k) * (tf tab k)))), (0, .ref (G.ad 0)), (1, .int (nI T)), (4, .int (nI ((offers tab).getD i 0))), (6, .int (nI k))]) hE.1 hE.2.1 dX11_offered_134 hl (by decide) rfl (fun ls hl => ?_)
                  have hl : lv_has ls 7 [(5, .int (nI (prd (fun k => if tAt tab ((offers tab).getD i 0) k = none then tf tab k else 1) (k + 1)))), (0, .ref (G.ad 0)), (1, .int (nI T)), (4, .int (nI ((offers tab).getD i 0))), (6, .int (nI k))] := by rw [prd, if_pos c114]; exact hl
                  refine lv_iinc (v := nI (k + 1)) (lv' := [(6, .int (nI (k + 1))), (5, .int (nI (prd (fun k => if tAt tab ((offers tab).getD i 0) k = none then tf tab k else 1) (k + 1)))), (0, .ref (G.ad 0)), (1, .int (nI T)), (4, .int (nI ((offers tab).getD i 0)))]) hE.1 hE.2.1 dX11_offered_136 hl (k := 4) rfl (nI_1 _) (by decide) rfl (fun ls hl => ?_)
                  refine lv_goto (tgt := 91) hE.1 hE.2.1 dX11_offered_139 (by decide) ?_
                  exact ih91 (k + 1) _ _ _ (by omega) (by omega) (lv_sub hl [2, 3, 4, 1, 0] rfl) hH
            · obtain ⟨k, hk3, rfl⟩ := m1_in (by omega) c15 c25 c73
              refine lv_aload_n hE.1 hE.2.1 dX11_offered_76 rfl (lv_at hl 1 rfl) ?_
              refine lv_iload_n hE.1 hE.2.1 dX11_offered_77 rfl (lv_at hl 2 rfl) ?_
              refine lv_iload hE.1 hE.2.1 dX11_offered_78 (lv_at hl 0 rfl) ?_
              refine lv_iload_n hE.1 hE.2.1 dX11_offered_80 rfl (lv_at hl 4 rfl) ?_
              refine rg_VI (As := [.int (nI T), .int (nI ((offers tab).getD i 0)), .int (nI k)]) (rest := []) hE hml hH mc_X11_250 (c_termAt l z G hG iv35 jv T hT tab hk hB ((offers tab).getD i 0) k (by omega) (by omega)) hG.1.1 hG.1.2 (by decide) rfl ⟨Nat.le_of_ble_eq_true rfl, Nat.le_of_ble_eq_true rfl⟩ rfl hl.1 (by simp [Value.category]) dX11_offered_81 ⟨Nat.le_of_ble_eq_true rfl, Nat.le_of_ble_eq_true rfl⟩ (fun r81 G81 iv81 jv81 H locs hp81 hH => ?_)
              obtain ⟨rfl, rfl, rfl, rfl⟩ := hp81
              exact rg_iret hE hr rfl hlk hH ⟨rfl, rfl, by rw [show spOffered a (nI T) (nI i) (nI k) = ok (oI (tAt tab ((offers tab).getD i 0) k)) a by rw [spOffered, onK_t hTl (by omega), ← htab, onK_t hi (by omega), onM_s hk3 (by omega)]]; exact ⟨h00, rfl, hS⟩, hF0⟩ dX11_offered_84
          · refine lv_aload_n hE.1 hE.2.1 dX11_offered_52 rfl (lv_at hl 0 rfl) ?_
            refine rg_VI (As := []) (rest := []) hE hml hH mc_X11_215 (c_fail l z G hG iv35 jv) hG.1.1 hG.1.2 (by decide) rfl ⟨Nat.le_of_ble_eq_true rfl, Nat.le_of_ble_eq_true rfl⟩ rfl hl.1 (by simp [Value.category]) dX11_offered_53 ⟨Nat.le_of_ble_eq_true rfl, Nat.le_of_ble_eq_true rfl⟩ (fun r53 G53 iv53 jv53 H locs hp53 hH => ?_)
            obtain ⟨rfl, rfl, rfl, rfl⟩ := hp53
            exact rg_iret hE hr rfl hlk hH ⟨rfl, rfl, by rw [show spOffered a (nI T) ix x = no 1 a by rw [spOffered, onK_t hTl (by omega), ← htab, onK_f (inI_ge (nlt_le c49))]]; exact ⟨rfl, rfl, hS.c0⟩, hF0.tr up0_M⟩ dX11_offered_56
      · refine lv_aload_n hE.1 hE.2.1 dX11_offered_28 rfl (lv_at hl 0 rfl) ?_
        refine rg_VI (As := []) (rest := []) hE hml hH mc_X11_215 (c_fail l z G hG iv1 jv) hG.1.1 hG.1.2 (by decide) rfl ⟨Nat.le_of_ble_eq_true rfl, Nat.le_of_ble_eq_true rfl⟩ rfl hl.1 (by simp [Value.category]) dX11_offered_29 ⟨Nat.le_of_ble_eq_true rfl, Nat.le_of_ble_eq_true rfl⟩ (fun r29 G29 iv29 jv29 H locs hp29 hH => ?_)
        obtain ⟨rfl, rfl, rfl, rfl⟩ := hp29
        exact rg_iret hE hr rfl hlk hH ⟨rfl, rfl, by rw [show spOffered a (nI T) ix x = no 1 a by rw [spOffered, onK_t hTl (by omega), ← htab, onK_no (fun j => onM_f (m1_ge (by omega) c25) (inI_ge (nlt_le c25)))]]; exact ⟨rfl, rfl, hS.c0⟩, hF0.tr up0_M⟩ dX11_offered_32
set_option maxRecDepth 100000 in
set_option maxHeartbeats 4000000 in
theorem c_say (l : Launch) (z : ZK) (G : GW) (hG : isM G) (iv : IV) (jv : JV) (o : List Nat) (hO : mOu iv o) (c : Nat) (hc : c < 128) (hl1 : o.length + 1 < 1000000) : cV l z yX11_say cX11_say 2 none 0 0 0 0 [.ref (G.ad 0), .int (nI c)] G iv jv (fun G' iv' jv' => G = G' ∧ jv = jv' ∧ mOu iv' (o ++ [c]) ∧ Fr iv iv' pO) := by
  intro sz
  refine rg_entry rfl (Nat.le_of_ble_eq_true rfl) ?_
  intro pq eq sq mq bq methq cq ls hE hr hlk hml hnm hl hsz hH
  have hl : lv_has ls 2 [(0, .ref (G.ad 0)), (1, .int (nI c))] := hl
  have hol := hO.2.1
  refine lv_aload_n hE.1 hE.2.1 dX11_say_0 rfl (lv_at hl 0 rfl) ?_
  refine rm_geti hE hH hG fl_X11_287 rfl (v := nI o.length) (hO.1) dX11_say_1 ?_
  refine lv_sipush (v := nI 2000) hE.1 hE.2.1 dX11_say_4 (by decide) ?_
  refine rn_icmp_ge (tgt := 20) hE dX11_say_7 (by decide) (by omega) (by omega) (fun c7 => ?_) (fun c7 => ?_)
  · have hlo : 2000 ≤ o.length := by omega
    refine lv_aload_n hE.1 hE.2.1 dX11_say_20 rfl (lv_at hl 0 rfl) ?_
    refine lv_dup hE.1 hE.2.1 dX11_say_21 rfl ?_
    refine rm_geti hE hH hG fl_X11_287 rfl (v := nI o.length) (hO.1) dX11_say_22 ?_
    refine lv_iconst (v := nI 1) hE.1 hE.2.1 dX11_say_25 (by decide) ?_
    refine rn_iadd hE dX11_say_26 ?_
    refine rm_puti hE hH hG fl_X11_287 rfl fn_X11_4 (v := nI (o.length + 1)) dX11_say_27 (fun H locs hH => ?_)
    exact rg_vret hE hr hlk hH ⟨rfl, rfl, hO.add hl1 hc (fun h => absurd h (by omega)) rfl, Fr.up Fr.rf (Or.inl ⟨rfl, rfl⟩)⟩ dX11_say_30
  · refine lv_aload_n hE.1 hE.2.1 dX11_say_10 rfl (lv_at hl 0 rfl) ?_
    refine rm_getr hE hH hG fl_X11_13 rfl (by decide) dX11_say_11 ?_
    refine lv_aload_n hE.1 hE.2.1 dX11_say_14 rfl (lv_at hl 0 rfl) ?_
    refine rm_geti hE hH hG fl_X11_287 rfl (v := nI o.length) (hO.1) dX11_say_15 ?_
    refine lv_iload_n hE.1 hE.2.1 dX11_say_18 rfl (lv_at hl 1 rfl) ?_
    refine rm_iast hE hH hG (k := 2) (by decide) rfl (N := 2000) rfl (n := o.length) (by omega) (v := nI c) dX11_say_19 (fun H locs hH => ?_)
    refine lv_aload_n hE.1 hE.2.1 dX11_say_20 rfl (lv_at hl 0 rfl) ?_
    refine lv_dup hE.1 hE.2.1 dX11_say_21 rfl ?_
    refine rm_geti hE hH hG fl_X11_287 rfl (v := nI o.length) (hO.1) dX11_say_22 ?_
    refine lv_iconst (v := nI 1) hE.1 hE.2.1 dX11_say_25 (by decide) ?_
    refine rn_iadd hE dX11_say_26 ?_
    refine rm_puti hE hH hG fl_X11_287 rfl fn_X11_4 (v := nI (o.length + 1)) dX11_say_27 (fun H locs hH => ?_)
    exact rg_vret hE hr hlk hH ⟨rfl, rfl, mOu.add (iv := up2 iv 2 o.length (nI c)) ⟨hO.1, hO.2.1, fun k hk hk2 => by rw [up2_k (by omega)]; exact hO.2.2 k hk hk2⟩ hl1 hc (fun _ => up2_s) rfl, Fr.up (Fr.up Fr.rf (Or.inr rfl)) (Or.inl ⟨rfl, rfl⟩)⟩ dX11_say_30
set_option maxRecDepth 100000 in
set_option maxHeartbeats 4000000 in
theorem c_sayText (l : Launch) (z : ZK) (G : GW) (hG : isM G) (iv : IV) (jv : JV) (o : List Nat) (hO : mOu iv o) (i : Nat) (hi : i < 30) (hl1 : o.length + sLen i < 1000000) : cV l z yX11_sayText cX11_sayText 3 none 4 85 0 0 [.ref (G.ad 0), .ref (z.1 i)] G iv jv (fun G' iv' jv' => G = G' ∧ jv = jv' ∧ mOu iv' (o ++ sW i) ∧ Fr iv iv' pO) := by
  intro sz
  refine rg_entry rfl (Nat.le_of_ble_eq_true rfl) ?_
  intro pq eq sq mq bq methq cq ls hE hr hlk hml hnm hl hsz hH
  have hl : lv_has ls 3 [(0, .ref (G.ad 0)), (1, .ref (z.1 i))] := hl
  have hsl := sLen_lt i
  refine lv_iconst (v := nI 0) hE.1 hE.2.1 dX11_sayText_0 (by decide) ?_
  refine lv_istore_n (lv' := [(2, .int (nI 0)), (0, .ref (G.ad 0)), (1, .ref (z.1 i))]) hE.1 hE.2.1 dX11_sayText_1 rfl hl (by decide) rfl (fun ls hl => ?_)
  refine rg_loop (σ := IV × Nat) (nL := 3) (fun (u : IV × Nat) => match u with | (iv2, k) => sLen i - k) (fun (u : IV × Nat) => match u with | (iv2, k) => [(0, .ref (G.ad 0)), (1, .ref (z.1 i)), (2, .int (nI k))]) (fun (u : IV × Nat) => match u with | (iv2, k) => G) (fun (u : IV × Nat) => match u with | (iv2, k) => iv2) (fun (u : IV × Nat) => match u with | (iv2, k) => jv) (fun (u : IV × Nat) => match u with | (iv2, k) => k ≤ sLen i ∧ mOu iv2 (o ++ (sW i).take k) ∧ Fr iv iv2 pO) ?_ ((iv, 0)) ⟨Nat.zero_le _, by simpa using hO, Fr.rf⟩ (lv_sub hl [1, 2, 0] rfl) hH
  rintro ⟨iv2, k⟩ H locs ls ⟨hki, hO, hFr⟩ hl hH ih2
  try dsimp only at hl hH ih2
  try dsimp only at hki hO hFr
  refine lv_iload_n hE.1 hE.2.1 dX11_sayText_2 rfl (lv_at hl 2 rfl) ?_
  refine lv_aload_n hE.1 hE.2.1 dX11_sayText_3 rfl (lv_at hl 1 rfl) ?_
  refine rg_XI (As := []) (rest := [.int (nI k)]) hE hml hH mc_X11_137 (c_slen l z G iv2 jv i hi) (rs_recv hE hH hi) rfl ⟨Nat.le_of_ble_eq_true rfl, Nat.le_of_ble_eq_true rfl⟩ rfl hl.1 (by simp [Value.category]) dX11_sayText_4 ⟨Nat.le_of_ble_eq_true rfl, Nat.le_of_ble_eq_true rfl⟩ (fun rs Gs ivs jvs H locs hps hH => ?_)
  obtain ⟨rfl, rfl, rfl, rfl⟩ := hps
  refine rn_icmp_ge (tgt := 25) hE dX11_sayText_7 (by decide) (by omega) (by omega) (fun c7 => ?_) (fun c7 => ?_)
  · rw [List.take_of_length_le (by rw [sW_len i hi]; omega)] at hO
    exact rg_vret hE hr hlk hH ⟨rfl, rfl, hO, hFr⟩ dX11_sayText_25
  · have hb7 : sB i k < 128 := sW_b7 hi _ (mem_getD' (d := 0) (l := sW i) (by rw [sW_len i hi]; omega))
    refine lv_aload_n hE.1 hE.2.1 dX11_sayText_10 rfl (lv_at hl 0 rfl) ?_
    refine lv_aload_n hE.1 hE.2.1 dX11_sayText_11 rfl (lv_at hl 1 rfl) ?_
    refine lv_iload_n hE.1 hE.2.1 dX11_sayText_12 rfl (lv_at hl 2 rfl) ?_
    refine rg_XI (As := [.int (nI k)]) (rest := [.ref (G.ad 0)]) hE hml hH mc_X11_143 (c_scharAt l z G iv2 jv i k hi (by omega)) (rs_recv hE hH hi) rfl ⟨Nat.le_of_ble_eq_true rfl, Nat.le_of_ble_eq_true rfl⟩ rfl hl.1 (by simp [Value.category]) dX11_sayText_13 ⟨Nat.le_of_ble_eq_true rfl, Nat.le_of_ble_eq_true rfl⟩ (fun rs Gs ivs jvs H locs hps hH => ?_)
    obtain ⟨rfl, rfl, rfl, rfl⟩ := hps
    refine rg_VV (As := [.int (nI (sB i k))]) (rest := []) hE hml hH mc_X11_290 (c_say l z G hG iv2 jv (o ++ (sW i).take k) hO (sB i k) hb7 (by rw [List.length_append, List.length_take]; omega)) hG.1.1 hG.1.2 (by decide) rfl ⟨Nat.le_of_ble_eq_true rfl, Nat.le_of_ble_eq_true rfl⟩ rfl hl.1 (by simp [Value.category]) dX11_sayText_16 ⟨Nat.le_of_ble_eq_true rfl, Nat.le_of_ble_eq_true rfl⟩ (fun G16 iv16 jv16 H locs hp16 hH => ?_)
    obtain ⟨rfl, rfl, hO, hF16⟩ := hp16
    have hFr := hFr.tr hF16
    refine lv_iinc (v := nI (k + 1)) (lv' := [(2, .int (nI (k + 1))), (0, .ref (G.ad 0)), (1, .ref (z.1 i))]) hE.1 hE.2.1 dX11_sayText_19 hl (k := 2) rfl (nI_1 _) (by decide) rfl (fun ls hl => ?_)
    refine lv_goto (tgt := 2) hE.1 hE.2.1 dX11_sayText_22 (by decide) ?_
    exact ih2 (iv16, k + 1) _ _ _ (show sLen i - (k + 1) < sLen i - k by omega) ⟨by show k + 1 ≤ sLen i; omega, by dsimp only; rw [take_s (by rw [sW_len i hi]; omega), ← List.append_assoc]; exact hO, hFr⟩ (lv_sub hl [1, 2, 0] rfl) hH
set_option maxRecDepth 100000 in
set_option maxHeartbeats 4000000 in
theorem c_sayWord (l : Launch) (z : ZK) (G : GW) (hG : isM G) (iv : IV) (jv : JV) (o : List Nat) (hO : mOu iv o) (w : Nat) (hw : w < 252) (ws : Wd) (hS : SW iv w ws) (h7 : b7 ws) (hl1 : o.length + ws.length < 1000000) : cV l z yX11_sayWord cX11_sayWord 3 none 1 21 0 0 [.ref (G.ad 0), .int (nI w)] G iv jv (fun G' iv' jv' => G = G' ∧ jv = jv' ∧ mOu iv' (o ++ ws) ∧ Fr iv iv' pO) := by
  intro sz
  refine rg_entry rfl (Nat.le_of_ble_eq_true rfl) ?_
  intro pq eq sq mq bq methq cq ls hE hr hlk hml hnm hl hsz hH
  have hl : lv_has ls 3 [(0, .ref (G.ad 0)), (1, .int (nI w))] := hl
  have hl8 := hS.2.1
  refine lv_iconst (v := nI 0) hE.1 hE.2.1 dX11_sayWord_0 (by decide) ?_
  refine lv_istore_n (lv' := [(2, .int (nI 0)), (0, .ref (G.ad 0)), (1, .int (nI w))]) hE.1 hE.2.1 dX11_sayWord_1 rfl hl (by decide) rfl (fun ls hl => ?_)
  refine rg_loop (σ := IV × Nat) (nL := 3) (fun (u : IV × Nat) => match u with | (iv2, k) => ws.length - k) (fun (u : IV × Nat) => match u with | (iv2, k) => [(0, .ref (G.ad 0)), (1, .int (nI w)), (2, .int (nI k))]) (fun (u : IV × Nat) => match u with | (iv2, k) => G) (fun (u : IV × Nat) => match u with | (iv2, k) => iv2) (fun (u : IV × Nat) => match u with | (iv2, k) => jv) (fun (u : IV × Nat) => match u with | (iv2, k) => k ≤ ws.length ∧ mOu iv2 (o ++ ws.take k) ∧ Fr iv iv2 pO) ?_ ((iv, 0)) ⟨Nat.zero_le _, by simpa using hO, Fr.rf⟩ (lv_sub hl [1, 2, 0] rfl) hH
  rintro ⟨iv2, k⟩ H locs ls ⟨hki, hO, hFr⟩ hl hH ih2
  try dsimp only at hl hH ih2
  try dsimp only at hki hO hFr
  have hS := hS.fr hFr (by simp) (fun j hj => by simp)
  refine lv_iload_n hE.1 hE.2.1 dX11_sayWord_2 rfl (lv_at hl 2 rfl) ?_
  refine lv_aload_n hE.1 hE.2.1 dX11_sayWord_3 rfl (lv_at hl 0 rfl) ?_
  refine rm_getr hE hH hG fl_X11_29 rfl (by decide) dX11_sayWord_4 ?_
  refine lv_iload_n hE.1 hE.2.1 dX11_sayWord_7 rfl (lv_at hl 1 rfl) ?_
  refine rm_iald hE hH hG (k := 11) (by decide) rfl (N := 252) rfl (n := w) (by omega) (v := nI ws.length) (hS.1) dX11_sayWord_8 ?_
  refine rn_icmp_ge (tgt := 33) hE dX11_sayWord_9 (by decide) (by omega) (by omega) (fun c9 => ?_) (fun c9 => ?_)
  · rw [List.take_of_length_le (by omega)] at hO
    exact rg_vret hE hr hlk hH ⟨rfl, rfl, hO, hFr⟩ dX11_sayWord_33
  · have hb7 : ws.getD k 0 < 128 := h7 _ (mem_getD' (by omega))
    refine lv_aload_n hE.1 hE.2.1 dX11_sayWord_12 rfl (lv_at hl 0 rfl) ?_
    refine lv_aload_n hE.1 hE.2.1 dX11_sayWord_13 rfl (lv_at hl 0 rfl) ?_
    refine rm_getr hE hH hG fl_X11_32 rfl (by decide) dX11_sayWord_14 ?_
    refine lv_bipush (v := nI 8) hE.1 hE.2.1 dX11_sayWord_17 (by decide) ?_
    refine lv_iload_n hE.1 hE.2.1 dX11_sayWord_19 rfl (lv_at hl 1 rfl) ?_
    refine rn_imul hE dX11_sayWord_20 ?_
    refine lv_iload_n hE.1 hE.2.1 dX11_sayWord_21 rfl (lv_at hl 2 rfl) ?_
    refine rn_iadd hE dX11_sayWord_22 ?_
    refine rm_iald hE hH hG (k := 12) (by decide) rfl (N := 2016) rfl (n := 8 * w + k) (by omega) (v := nI (ws.getD k 0)) (hS.2.2.1 k (by omega)) dX11_sayWord_23 ?_
    refine rg_VV (As := [.int (nI (ws.getD k 0))]) (rest := []) hE hml hH mc_X11_290 (c_say l z G hG iv2 jv (o ++ ws.take k) hO (ws.getD k 0) hb7 (by rw [List.length_append, List.length_take]; omega)) hG.1.1 hG.1.2 (by decide) rfl ⟨Nat.le_of_ble_eq_true rfl, Nat.le_of_ble_eq_true rfl⟩ rfl hl.1 (by simp [Value.category]) dX11_sayWord_24 ⟨Nat.le_of_ble_eq_true rfl, Nat.le_of_ble_eq_true rfl⟩ (fun G24 iv24 jv24 H locs hp24 hH => ?_)
    obtain ⟨rfl, rfl, hO, hF24⟩ := hp24
    have hFr := hFr.tr hF24
    refine lv_iinc (v := nI (k + 1)) (lv' := [(2, .int (nI (k + 1))), (0, .ref (G.ad 0)), (1, .int (nI w))]) hE.1 hE.2.1 dX11_sayWord_27 hl (k := 2) rfl (nI_1 _) (by decide) rfl (fun ls hl => ?_)
    refine lv_goto (tgt := 2) hE.1 hE.2.1 dX11_sayWord_30 (by decide) ?_
    exact ih2 (iv24, k + 1) _ _ _ (show ws.length - (k + 1) < ws.length - k by omega) ⟨by show k + 1 ≤ ws.length; omega, by dsimp only; rw [take_s (by omega), ← List.append_assoc]; exact hO, hFr⟩ (lv_sub hl [1, 2, 0] rfl) hH
