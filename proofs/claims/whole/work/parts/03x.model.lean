set_option maxRecDepth 100000 in
set_option maxHeartbeats 4000000 in
theorem c_isProgram (l : Launch) (z : ZK) (G : GW) (hG : isM G) (iv : IV) (jv : JV) (t : Int32) (n : Nat) (h7 : iv 0 7 = nI n) : cI l z yX11_isProgram cX11_isProgram 2 (some .boolean) 0 0 0 0 [.ref (G.ad 0), .int (t)] G iv jv (fun r G' iv' jv' => G = G' ∧ iv = iv' ∧ jv = jv' ∧ r = bI (inI t n)) := by
  intro sz
  refine rg_entry rfl (Nat.le_of_ble_eq_true rfl) ?_
  intro pq eq sq mq bq methq cq ls hE hr hlk hml hnm hl hsz hH
  have hl : lv_has ls 2 [(0, .ref (G.ad 0)), (1, .int (t))] := hl
  refine lv_iload_n hE.1 hE.2.1 dX11_isProgram_0 rfl (lv_at hl 1 rfl) ?_
  refine lv_if_lt (tgt := 16) hE.1 hE.2.1 dX11_isProgram_1 (by decide) (fun c1 => ?_) (fun c1 => ?_)
  · refine lv_iconst (v := nI 0) hE.1 hE.2.1 dX11_isProgram_16 (by decide) ?_
    exact rg_iret hE hr (nz_0) hlk hH ⟨rfl, rfl, rfl, zero_bI (by simp [inI, c1])⟩ dX11_isProgram_17
  · refine lv_iload_n hE.1 hE.2.1 dX11_isProgram_4 rfl (lv_at hl 1 rfl) ?_
    refine lv_aload_n hE.1 hE.2.1 dX11_isProgram_5 rfl (lv_at hl 0 rfl) ?_
    refine rm_geti hE hH hG fl_X11_234 rfl (v := nI n) (h7) dX11_isProgram_6 ?_
    refine lv_icmp_ge (tgt := 16) hE.1 hE.2.1 dX11_isProgram_9 (by decide) (fun c9 => ?_) (fun c9 => ?_)
    · refine lv_iconst (v := nI 0) hE.1 hE.2.1 dX11_isProgram_16 (by decide) ?_
      exact rg_iret hE hr (nz_0) hlk hH ⟨rfl, rfl, rfl, zero_bI (by simp [inI, c1, c9])⟩ dX11_isProgram_17
    · refine lv_iconst (v := nI 1) hE.1 hE.2.1 dX11_isProgram_12 (by decide) ?_
      refine lv_goto (tgt := 17) hE.1 hE.2.1 dX11_isProgram_13 (by decide) ?_
      exact rg_iret hE hr (nz_1) hlk hH ⟨rfl, rfl, rfl, one_bI (by simp [inI, c1, c9])⟩ dX11_isProgram_17
set_option maxRecDepth 100000 in
set_option maxHeartbeats 4000000 in
theorem c_bytes (l : Launch) (z : ZK) (G : GW) (hG : isM G) (iv : IV) (jv : JV) (n : Nat) (hn : n < 1000000) (h4 : iv 0 4 = nI n) : cI l z yX11_bytes cX11_bytes 1 (some .int) 1 21 0 0 [.ref (G.ad 0)] G iv jv (fun r G' iv' jv' => G = G' ∧ iv = iv' ∧ jv = jv' ∧ r = nI (min n 2000)) := by
  intro sz
  refine rg_entry rfl (Nat.le_of_ble_eq_true rfl) ?_
  intro pq eq sq mq bq methq cq ls hE hr hlk hml hnm hl hsz hH
  have hl : lv_has ls 1 [(0, .ref (G.ad 0))] := hl
  refine lv_aload_n hE.1 hE.2.1 dX11_bytes_0 rfl (lv_at hl 0 rfl) ?_
  refine rm_geti hE hH hG fl_X11_287 rfl (v := nI n) (h4) dX11_bytes_1 ?_
  refine lv_sipush (v := nI 2000) hE.1 hE.2.1 dX11_bytes_4 (by decide) ?_
  refine rg_min (x := n) (y := 2000) (rest := []) hE hml hl.1 mc_X11_308 ⟨Nat.le_of_ble_eq_true rfl, Nat.le_of_ble_eq_true rfl⟩ ⟨Nat.le_of_ble_eq_true rfl, Nat.le_of_ble_eq_true rfl⟩ (by simp [Value.category]) (by omega) (by omega) dX11_bytes_7 ?_
  exact rg_iret hE hr rfl hlk hH ⟨rfl, rfl, rfl, rfl⟩ dX11_bytes_10
set_option maxRecDepth 100000 in
set_option maxHeartbeats 4000000 in
theorem c_fault (l : Launch) (z : ZK) (G : GW) (hG : isM G) (iv : IV) (jv : JV) (a : AS) (hS : MSt iv a) : cI l z yX11_fault cX11_fault 1 (some .int) 0 0 0 0 [.ref (G.ad 0)] G iv jv (fun r G' iv' jv' => G = G' ∧ jv = jv' ∧ (iv' 0 0 = nI (spFault a).1 ∧ r = (spFault a).2.1 ∧ MSt iv' (spFault a).2.2) ∧ Fr iv iv' pM) := by
  intro sz
  refine rg_entry rfl (Nat.le_of_ble_eq_true rfl) ?_
  intro pq eq sq mq bq methq cq ls hE hr hlk hml hnm hl hsz hH
  have hl : lv_has ls 1 [(0, .ref (G.ad 0))] := hl
  refine lv_aload_n hE.1 hE.2.1 dX11_fault_0 rfl (lv_at hl 0 rfl) ?_
  refine lv_iconst (v := nI 0) hE.1 hE.2.1 dX11_fault_1 (by decide) ?_
  refine rm_puti hE hH hG fl_X11_96 rfl fn_X11_0 (v := nI 0) dX11_fault_2 (fun H locs hH => ?_)
  have hF0 : Fr iv (up2 iv 0 0 (nI 0)) pM := up0_M
  have hS : MSt (up2 iv 0 0 (nI 0)) a := hS.c0
  have h00 : (up2 iv 0 0 (nI 0)) 0 0 = nI 0 := rfl
  generalize up2 iv 0 0 (nI 0) = iv1 at hH hS hF0 h00
  have hS6 := hS.2.2.1.2.1
  have hS12 := hS.2.2.2.1.2.1
  have hS3 := hS.1.2.1
  have hSo := hS.2.2.2.2.2.1
  refine lv_aload_n hE.1 hE.2.1 dX11_fault_5 rfl (lv_at hl 0 rfl) ?_
  refine rm_geti hE hH hG fl_X11_16 rfl (v := aF a) (hS.2.1) dX11_fault_6 ?_
  exact rg_iret hE hr rfl hlk hH ⟨rfl, rfl, ⟨h00, rfl, hS⟩, hF0⟩ dX11_fault_9
set_option maxRecDepth 100000 in
set_option maxHeartbeats 4000000 in
theorem c_count (l : Launch) (z : ZK) (G : GW) (hG : isM G) (iv : IV) (jv : JV) (a : AS) (hS : MSt iv a) (w : Int32) : cI l z yX11_count cX11_count 2 (some .int) 2 41 0 0 [.ref (G.ad 0), .int (w)] G iv jv (fun r G' iv' jv' => G = G' ∧ jv = jv' ∧ (iv' 0 0 = nI (spCount a w).1 ∧ r = (spCount a w).2.1 ∧ MSt iv' (spCount a w).2.2) ∧ Fr iv iv' pM) := by
  intro sz
  refine rg_entry rfl (Nat.le_of_ble_eq_true rfl) ?_
  intro pq eq sq mq bq methq cq ls hE hr hlk hml hnm hl hsz hH
  have hl : lv_has ls 2 [(0, .ref (G.ad 0)), (1, .int (w))] := hl
  refine lv_aload_n hE.1 hE.2.1 dX11_count_0 rfl (lv_at hl 0 rfl) ?_
  refine lv_iconst (v := nI 0) hE.1 hE.2.1 dX11_count_1 (by decide) ?_
  refine rm_puti hE hH hG fl_X11_96 rfl fn_X11_0 (v := nI 0) dX11_count_2 (fun H locs hH => ?_)
  have hF0 : Fr iv (up2 iv 0 0 (nI 0)) pM := up0_M
  have hS : MSt (up2 iv 0 0 (nI 0)) a := hS.c0
  have h00 : (up2 iv 0 0 (nI 0)) 0 0 = nI 0 := rfl
  generalize up2 iv 0 0 (nI 0) = iv1 at hH hS hF0 h00
  have hS6 := hS.2.2.1.2.1
  have hS12 := hS.2.2.2.1.2.1
  have hS3 := hS.1.2.1
  have hSo := hS.2.2.2.2.2.1
  refine lv_iload_n hE.1 hE.2.1 dX11_count_5 rfl (lv_at hl 1 rfl) ?_
  by_cases hw6 : inI w 4 = true
  · obtain ⟨kw, hkl, hkw⟩ := inI_of (by decide) hw6
    rcases (show kw = 0 ∨ kw = 1 ∨ kw = 2 ∨ kw = 3 by omega) with rfl | rfl | rfl | rfl
    · subst hkw
      refine lv_tableIn (x := nI 0) (off := 30) (tgt := 36) hE.1 hE.2.1 dX11_count_6 (by decide) (by decide) rfl (by decide) ?_
      refine lv_aload_n hE.1 hE.2.1 dX11_count_36 rfl (lv_at hl 0 rfl) ?_
      refine rm_geti hE hH hG fl_X11_99 rfl (v := nI ((aT a).length)) (hS.2.2.1.1) dX11_count_37 ?_
      exact rg_iret hE hr rfl hlk hH ⟨rfl, rfl, by rw [show spCount a (nI 0) = ok (nI ((aT a).length)) a by rw [spCount, onK_t (by decide) (by decide)]; rfl]; exact ⟨h00, rfl, hS⟩, hF0⟩ dX11_count_40
    · subst hkw
      refine lv_tableIn (x := nI 1) (off := 35) (tgt := 41) hE.1 hE.2.1 dX11_count_6 (by decide) (by decide) rfl (by decide) ?_
      refine lv_aload_n hE.1 hE.2.1 dX11_count_41 rfl (lv_at hl 0 rfl) ?_
      refine rm_geti hE hH hG fl_X11_234 rfl (v := nI ((aP a).length)) (hS.2.2.2.1.1) dX11_count_42 ?_
      exact rg_iret hE hr rfl hlk hH ⟨rfl, rfl, by rw [show spCount a (nI 1) = ok (nI ((aP a).length)) a by rw [spCount, onK_t (by decide) (by decide)]; rfl]; exact ⟨h00, rfl, hS⟩, hF0⟩ dX11_count_45
    · subst hkw
      refine lv_tableIn (x := nI 2) (off := 40) (tgt := 46) hE.1 hE.2.1 dX11_count_6 (by decide) (by decide) rfl (by decide) ?_
      refine lv_aload_n hE.1 hE.2.1 dX11_count_46 rfl (lv_at hl 0 rfl) ?_
      refine rm_geti hE hH hG fl_X11_102 rfl (v := nI (aN a)) (hS.1.1) dX11_count_47 ?_
      exact rg_iret hE hr rfl hlk hH ⟨rfl, rfl, by rw [show spCount a (nI 2) = ok (nI (aN a)) a by rw [spCount, onK_t (by decide) (by decide)]; rfl]; exact ⟨h00, rfl, hS⟩, hF0⟩ dX11_count_50
    · subst hkw
      refine lv_tableIn (x := nI 3) (off := 45) (tgt := 51) hE.1 hE.2.1 dX11_count_6 (by decide) (by decide) rfl (by decide) ?_
      refine lv_aload_n hE.1 hE.2.1 dX11_count_51 rfl (lv_at hl 0 rfl) ?_
      refine rg_VI (As := []) (rest := []) hE hml hH mc_X11_313 (c_bytes l z G hG iv1 jv (aO a).length hSo hS.2.2.2.2.1) hG.1.1 hG.1.2 (by decide) rfl ⟨Nat.le_of_ble_eq_true rfl, Nat.le_of_ble_eq_true rfl⟩ rfl hl.1 (by simp [Value.category]) dX11_count_52 ⟨Nat.le_of_ble_eq_true rfl, Nat.le_of_ble_eq_true rfl⟩ (fun r52 G52 iv52 jv52 H locs hp52 hH => ?_)
      obtain ⟨rfl, rfl, rfl, rfl⟩ := hp52
      exact rg_iret hE hr rfl hlk hH ⟨rfl, rfl, by rw [show spCount a (nI 3) = ok (nI (min (aO a).length 2000)) a by rw [spCount, onK_t (by decide) (by decide)]; rfl]; exact ⟨h00, rfl, hS⟩, hF0⟩ dX11_count_55
  · refine lv_tableOut (tgt := 56) hE.1 hE.2.1 dX11_count_6 (by have := inI_out (by decide) hw6; omega) (by decide) ?_
    refine lv_aload_n hE.1 hE.2.1 dX11_count_56 rfl (lv_at hl 0 rfl) ?_
    refine rg_VI (As := []) (rest := []) hE hml hH mc_X11_215 (c_fail l z G hG iv1 jv) hG.1.1 hG.1.2 (by decide) rfl ⟨Nat.le_of_ble_eq_true rfl, Nat.le_of_ble_eq_true rfl⟩ rfl hl.1 (by simp [Value.category]) dX11_count_57 ⟨Nat.le_of_ble_eq_true rfl, Nat.le_of_ble_eq_true rfl⟩ (fun r57 G57 iv57 jv57 H locs hp57 hH => ?_)
    obtain ⟨rfl, rfl, rfl, rfl⟩ := hp57
    exact rg_iret hE hr rfl hlk hH ⟨rfl, rfl, by rw [show spCount a w = no 1 a by rw [spCount, onK_f (by simpa using hw6)]]; exact ⟨rfl, rfl, hS.c0⟩, hF0.tr up0_M⟩ dX11_count_60
set_option maxRecDepth 100000 in
set_option maxHeartbeats 4000000 in
theorem c_about (l : Launch) (z : ZK) (G : GW) (hG : isM G) (iv : IV) (jv : JV) (a : AS) (hS : MSt iv a) (t w : Int32) : cI l z yX11_about cX11_about 6 (some .int) 4 103 0 0 [.ref (G.ad 0), .int (t), .int (w)] G iv jv (fun r G' iv' jv' => G = G' ∧ jv = jv' ∧ (iv' 0 0 = nI (spAbout a t w).1 ∧ r = (spAbout a t w).2.1 ∧ MSt iv' (spAbout a t w).2.2) ∧ Fr iv iv' pM) := by
  intro sz
  refine rg_entry rfl (Nat.le_of_ble_eq_true rfl) ?_
  intro pq eq sq mq bq methq cq ls hE hr hlk hml hnm hl hsz hH
  have hl : lv_has ls 6 [(0, .ref (G.ad 0)), (1, .int (t)), (2, .int (w))] := hl
  refine lv_aload_n hE.1 hE.2.1 dX11_about_0 rfl (lv_at hl 0 rfl) ?_
  refine lv_iconst (v := nI 0) hE.1 hE.2.1 dX11_about_1 (by decide) ?_
  refine rm_puti hE hH hG fl_X11_96 rfl fn_X11_0 (v := nI 0) dX11_about_2 (fun H locs hH => ?_)
  have hF0 : Fr iv (up2 iv 0 0 (nI 0)) pM := up0_M
  have hS : MSt (up2 iv 0 0 (nI 0)) a := hS.c0
  have h00 : (up2 iv 0 0 (nI 0)) 0 0 = nI 0 := rfl
  generalize up2 iv 0 0 (nI 0) = iv1 at hH hS hF0 h00
  have hS6 := hS.2.2.1.2.1
  have hS12 := hS.2.2.2.1.2.1
  have hS3 := hS.1.2.1
  have hSo := hS.2.2.2.2.2.1
  refine lv_aload_n hE.1 hE.2.1 dX11_about_5 rfl (lv_at hl 0 rfl) ?_
  refine lv_iload_n hE.1 hE.2.1 dX11_about_6 rfl (lv_at hl 1 rfl) ?_
  refine rg_VI (As := [.int (t)]) (rest := []) hE hml hH mc_X11_231 (c_isTable l z G hG iv1 jv t (aT a).length hS.2.2.1.1) hG.1.1 hG.1.2 (by decide) rfl ⟨Nat.le_of_ble_eq_true rfl, Nat.le_of_ble_eq_true rfl⟩ rfl hl.1 (by simp [Value.category]) dX11_about_7 ⟨Nat.le_of_ble_eq_true rfl, Nat.le_of_ble_eq_true rfl⟩ (fun r7 G7 iv7 jv7 H locs hp7 hH => ?_)
  obtain ⟨rfl, rfl, rfl, rfl⟩ := hp7
  refine rn_ifb_ne (tgt := 18) hE dX11_about_10 (by decide) (fun c10 => ?_) (fun c10 => ?_)
  · obtain ⟨T, hTl, rfl⟩ := inI_of (by omega) c10
    have hT : T < 6 := by omega
    obtain ⟨tab, htab⟩ : ∃ x, x = aTb a T := ⟨_, rfl⟩
    have hFT : FT iv1 T tab := by rw [htab]; exact (hS.2.2.1.2.2.1 T hTl).1
    have hTW : tabW tab := by rw [htab]; exact (hS.2.2.1.2.2.1 T hTl).2.1
    have hLD : LD iv1 T tab := by rw [htab]; exact (hS.2.2.1.2.2.1 T hTl).2.2
    have hB := hFT.1
    have hk := hFT.2.1
    have hA := hFT.2.2
    have h8 := hB.f.1
    have h10 := hB.f.2.1
    have h9 := hB.f.2.2.1
    have h13 := hB.f.2.2.2.1
    have h14 := hB.f.2.2.2.2.1
    have hm5 := hk.2.1
    have hm1 := hk.1
    have hC := hk.2.2.2.1
    have hR40 := hk.2.2.2.2.2.2.1
    refine lv_iconst (v := nI 0) hE.1 hE.2.1 dX11_about_18 (by decide) ?_
    refine lv_istore_n (lv' := [(3, .int (nI 0)), (0, .ref (G.ad 0)), (1, .int (nI T)), (2, .int (w))]) hE.1 hE.2.1 dX11_about_19 rfl hl (by decide) rfl (fun ls hl => ?_)
    refine lv_iload_n hE.1 hE.2.1 dX11_about_20 rfl (lv_at hl 3 rfl) ?_
    by_cases hw21 : inI w 9 = true
    · obtain ⟨kw, hkl, hkw⟩ := inI_of (by decide) hw21
      rcases (show kw = 0 ∨ kw = 1 ∨ kw = 2 ∨ kw = 3 ∨ kw = 4 ∨ kw = 5 ∨ kw = 6 ∨ kw = 7 ∨ kw = 8 by omega) with rfl | rfl | rfl | rfl | rfl | rfl | rfl | rfl | rfl
      · subst hkw
        refine lv_tableIn (x := nI 0) (off := 51) (tgt := 72) hE.1 hE.2.1 dX11_about_21 (by decide) (by decide) rfl (by decide) ?_
        refine lv_aload_n hE.1 hE.2.1 dX11_about_72 rfl (lv_at hl 1 rfl) ?_
        refine rm_getr hE hH hG fl_X11_20 rfl (by decide) dX11_about_73 ?_
        refine lv_iload_n hE.1 hE.2.1 dX11_about_76 rfl (lv_at hl 2 rfl) ?_
        refine rm_iald hE hH hG (k := 8) (by decide) rfl (N := 6) rfl (n := T) (by omega) (v := nI (tm tab)) (h8) dX11_about_77 ?_
        exact rg_iret hE hr rfl hlk hH ⟨rfl, rfl, by rw [show spAbout a (nI T) (nI 0) = ok (nI (tm tab)) a by rw [spAbout, onK_t hTl (by omega), onK_t (by decide) (by decide), ← htab]; rfl]; exact ⟨h00, rfl, hS⟩, hF0⟩ dX11_about_78
      · subst hkw
        refine lv_tableIn (x := nI 1) (off := 58) (tgt := 79) hE.1 hE.2.1 dX11_about_21 (by decide) (by decide) rfl (by decide) ?_
        refine lv_aload_n hE.1 hE.2.1 dX11_about_79 rfl (lv_at hl 1 rfl) ?_
        refine lv_iload_n hE.1 hE.2.1 dX11_about_80 rfl (lv_at hl 2 rfl) ?_
        refine rg_VI (As := [.int (nI T)]) (rest := []) hE hml hH mc_X11_205 (c_casesOf l z G hG iv1 jv T (tm tab) hT hm5 (tf tab) h8 h10) hG.1.1 hG.1.2 (by decide) rfl ⟨Nat.le_of_ble_eq_true rfl, Nat.le_of_ble_eq_true rfl⟩ rfl hl.1 (by simp [Value.category]) dX11_about_81 ⟨Nat.le_of_ble_eq_true rfl, Nat.le_of_ble_eq_true rfl⟩ (fun r81 G81 iv81 jv81 H locs hp81 hH => ?_)
        obtain ⟨rfl, rfl, rfl, rfl⟩ := hp81
        refine rn_as (v' := nI (tC tab)) rfl ?_
        exact rg_iret hE hr rfl hlk hH ⟨rfl, rfl, by rw [show spAbout a (nI T) (nI 1) = ok (nI (tC tab)) a by rw [spAbout, onK_t hTl (by omega), onK_t (by decide) (by decide), ← htab]; rfl]; exact ⟨h00, rfl, hS⟩, hF0⟩ dX11_about_84
      · subst hkw
        refine lv_tableIn (x := nI 2) (off := 64) (tgt := 85) hE.1 hE.2.1 dX11_about_21 (by decide) (by decide) rfl (by decide) ?_
        refine lv_aload_n hE.1 hE.2.1 dX11_about_85 rfl (lv_at hl 1 rfl) ?_
        refine rm_getr hE hH hG fl_X11_26 rfl (by decide) dX11_about_86 ?_
        refine lv_bipush (v := nI 6) hE.1 hE.2.1 dX11_about_89 (by decide) ?_
        refine lv_iload_n hE.1 hE.2.1 dX11_about_91 rfl (lv_at hl 2 rfl) ?_
        refine rn_imul hE dX11_about_92 ?_
        refine lv_iconst (v := nI 5) hE.1 hE.2.1 dX11_about_93 (by decide) ?_
        refine rn_iadd hE dX11_about_94 ?_
        refine rm_iald hE hH hG (k := 10) (by decide) rfl (N := 36) rfl (n := 6 * T + 5) (by omega) (v := nI (tO tab)) (hB.f.2.2.2.2.2) dX11_about_95 ?_
        exact rg_iret hE hr rfl hlk hH ⟨rfl, rfl, by rw [show spAbout a (nI T) (nI 2) = ok (nI (tO tab)) a by rw [spAbout, onK_t hTl (by omega), onK_t (by decide) (by decide), ← htab]; rfl]; exact ⟨h00, rfl, hS⟩, hF0⟩ dX11_about_96
      · subst hkw
        refine lv_tableIn (x := nI 3) (off := 76) (tgt := 97) hE.1 hE.2.1 dX11_about_21 (by decide) (by decide) rfl (by decide) ?_
        refine lv_aload_n hE.1 hE.2.1 dX11_about_97 rfl (lv_at hl 1 rfl) ?_
        refine rm_getr hE hH hG fl_X11_23 rfl (by decide) dX11_about_98 ?_
        refine lv_iload_n hE.1 hE.2.1 dX11_about_101 rfl (lv_at hl 2 rfl) ?_
        refine rm_iald hE hH hG (k := 9) (by decide) rfl (N := 6) rfl (n := T) (by omega) (v := nI (tR tab)) (h9) dX11_about_102 ?_
        exact rg_iret hE hr rfl hlk hH ⟨rfl, rfl, by rw [show spAbout a (nI T) (nI 3) = ok (nI (tR tab)) a by rw [spAbout, onK_t hTl (by omega), onK_t (by decide) (by decide), ← htab]; rfl]; exact ⟨h00, rfl, hS⟩, hF0⟩ dX11_about_103
      · subst hkw
        refine lv_tableIn (x := nI 4) (off := 83) (tgt := 104) hE.1 hE.2.1 dX11_about_21 (by decide) (by decide) rfl (by decide) ?_
        refine lv_aload_n hE.1 hE.2.1 dX11_about_104 rfl (lv_at hl 1 rfl) ?_
        refine lv_iload_n hE.1 hE.2.1 dX11_about_105 rfl (lv_at hl 2 rfl) ?_
        refine rg_VI (As := [.int (nI T)]) (rest := []) hE hml hH mc_X11_275 (c_holes l z G hG iv1 jv T hT tab hFT) hG.1.1 hG.1.2 (by decide) rfl ⟨Nat.le_of_ble_eq_true rfl, Nat.le_of_ble_eq_true rfl⟩ rfl hl.1 (by simp [Value.category]) dX11_about_106 ⟨Nat.le_of_ble_eq_true rfl, Nat.le_of_ble_eq_true rfl⟩ (fun r106 G106 iv106 jv106 H locs hp106 hH => ?_)
        obtain ⟨rfl, rfl, rfl, rfl⟩ := hp106
        exact rg_iret hE hr rfl hlk hH ⟨rfl, rfl, by rw [show spAbout a (nI T) (nI 4) = ok (nI (cntN (fun c => (frow tab c).isNone) (tC tab))) a by rw [spAbout, onK_t hTl (by omega), onK_t (by decide) (by decide), ← htab]; rfl]; exact ⟨h00, rfl, hS⟩, hF0⟩ dX11_about_109
      · subst hkw
        refine lv_tableIn (x := nI 5) (off := 89) (tgt := 110) hE.1 hE.2.1 dX11_about_21 (by decide) (by decide) rfl (by decide) ?_
        refine lv_iconst (v := nI 0) hE.1 hE.2.1 dX11_about_110 (by decide) ?_
        refine lv_istore (lv' := [(4, .int (nI 0)), (3, .int (nI 0)), (0, .ref (G.ad 0)), (1, .int (nI T)), (2, .int (nI 5))]) hE.1 hE.2.1 dX11_about_111 hl (by decide) rfl (fun ls hl => ?_)
        refine rg_loop (σ := Nat) (nL := 6) (fun (x : Nat) => tR tab - x) (fun (x : Nat) => [(0, .ref (G.ad 0)), (1, .int (nI T)), (3, .int (nI ((qUp tab x).length))), (4, .int (nI x))]) (fun (x : Nat) => G) (fun (x : Nat) => iv1) (fun (x : Nat) => jv) (fun (x : Nat) => x ≤ tR tab) ?_ (0) (Nat.zero_le _) (lv_sub hl [2, 3, 1, 0] rfl) hH
        rintro x H locs ls hxR hl hH ih113
        try dsimp only at hl hH ih113
        refine lv_iload hE.1 hE.2.1 dX11_about_113 (lv_at hl 3 rfl) ?_
        refine lv_aload_n hE.1 hE.2.1 dX11_about_115 rfl (lv_at hl 0 rfl) ?_
        refine rm_getr hE hH hG fl_X11_23 rfl (by decide) dX11_about_116 ?_
        refine lv_iload_n hE.1 hE.2.1 dX11_about_119 rfl (lv_at hl 1 rfl) ?_
        refine rm_iald hE hH hG (k := 9) (by decide) rfl (N := 6) rfl (n := T) (by omega) (v := nI (tR tab)) (h9) dX11_about_120 ?_
        refine rn_icmp_ge (tgt := 174) hE dX11_about_121 (by decide) (by omega) (by omega) (fun c121 => ?_) (fun c121 => ?_)
        · have hxe : x = tR tab := by omega
          subst hxe
          refine lv_iload_n hE.1 hE.2.1 dX11_about_174 rfl (lv_at hl 2 rfl) ?_
          exact rg_iret hE hr rfl hlk hH ⟨rfl, rfl, by rw [show spAbout a (nI T) (nI 5) = ok (nI ((qUp tab (tR tab)).length)) a by rw [spAbout, onK_t hTl (by omega), onK_t (by decide) (by decide), ← htab]; rfl]; exact ⟨h00, rfl, hS⟩, hF0⟩ dX11_about_175
        · refine lv_iload hE.1 hE.2.1 dX11_about_124 (lv_at hl 3 rfl) ?_
          refine lv_iconst (v := nI 1) hE.1 hE.2.1 dX11_about_126 (by decide) ?_
          refine rn_iadd hE dX11_about_127 ?_
          have hl : lv_has ls 6 [(0, .ref (G.ad 0)), (1, .int (nI T)), (3, .int (nI ((qUp tab x ++ qRow tab x (x + 1)).length))), (4, .int (nI x))] := by rw [qRow_0 (x + 1) (Nat.le_refl _), List.append_nil]; exact hl
          refine lv_istore (lv' := [(5, .int (nI (x + 1))), (0, .ref (G.ad 0)), (1, .int (nI T)), (3, .int (nI ((qUp tab x ++ qRow tab x (x + 1)).length))), (4, .int (nI x))]) hE.1 hE.2.1 dX11_about_128 hl (by decide) rfl (fun ls hl => ?_)
          refine rg_loop (σ := Nat) (nL := 6) (fun (y : Nat) => tR tab - y) (fun (y : Nat) => [(0, .ref (G.ad 0)), (1, .int (nI T)), (3, .int (nI ((qUp tab x ++ qRow tab x y).length))), (4, .int (nI x)), (5, .int (nI y))]) (fun (y : Nat) => G) (fun (y : Nat) => iv1) (fun (y : Nat) => jv) (fun (y : Nat) => x < y ∧ y ≤ tR tab) ?_ ((x + 1)) ⟨Nat.lt_succ_self x, by omega⟩ (lv_sub hl [1, 2, 3, 4, 0] rfl) hH
          rintro y H locs ls ⟨hxy, hyR⟩ hl hH ih130
          try dsimp only at hl hH ih130
          refine lv_iload hE.1 hE.2.1 dX11_about_130 (lv_at hl 4 rfl) ?_
          refine lv_aload_n hE.1 hE.2.1 dX11_about_132 rfl (lv_at hl 0 rfl) ?_
          refine rm_getr hE hH hG fl_X11_23 rfl (by decide) dX11_about_133 ?_
          refine lv_iload_n hE.1 hE.2.1 dX11_about_136 rfl (lv_at hl 1 rfl) ?_
          refine rm_iald hE hH hG (k := 9) (by decide) rfl (N := 6) rfl (n := T) (by omega) (v := nI (tR tab)) (h9) dX11_about_137 ?_
          refine rn_icmp_ge (tgt := 168) hE dX11_about_138 (by decide) (by omega) (by omega) (fun c138 => ?_) (fun c138 => ?_)
          · have hye : y = tR tab := by omega
            subst hye
            have hl : lv_has ls 6 [(0, .ref (G.ad 0)), (1, .int (nI T)), (3, .int (nI ((qUp tab (x + 1)).length))), (4, .int (nI x)), (5, .int (nI (tR tab)))] := by rw [qUp]; exact hl
            refine lv_iinc (v := nI (x + 1)) (lv' := [(4, .int (nI (x + 1))), (0, .ref (G.ad 0)), (1, .int (nI T)), (3, .int (nI ((qUp tab (x + 1)).length))), (5, .int (nI (tR tab)))]) hE.1 hE.2.1 dX11_about_168 hl (k := 3) rfl (nI_1 _) (by decide) rfl (fun ls hl => ?_)
            refine lv_goto (tgt := 113) hE.1 hE.2.1 dX11_about_171 (by decide) ?_
            exact ih113 (x + 1) _ _ _ (by omega) (by omega) (lv_sub hl [1, 2, 3, 0] rfl) hH
          · refine lv_iload_n hE.1 hE.2.1 dX11_about_141 rfl (lv_at hl 2 rfl) ?_
            refine lv_aload_n hE.1 hE.2.1 dX11_about_142 rfl (lv_at hl 0 rfl) ?_
            refine lv_iload_n hE.1 hE.2.1 dX11_about_143 rfl (lv_at hl 1 rfl) ?_
            refine lv_iload hE.1 hE.2.1 dX11_about_144 (lv_at hl 3 rfl) ?_
            refine lv_iload hE.1 hE.2.1 dX11_about_146 (lv_at hl 4 rfl) ?_
            refine rg_VI (As := [.int (nI T), .int (nI x), .int (nI y)]) (rest := [.int (nI ((qUp tab x ++ qRow tab x y).length))]) hE hml hH mc_X11_278 (c_quarrelAt l z G hG iv1 jv T hT tab hFT x y (by omega) (by omega)) hG.1.1 hG.1.2 (by decide) rfl ⟨Nat.le_of_ble_eq_true rfl, Nat.le_of_ble_eq_true rfl⟩ rfl hl.1 (by simp [Value.category]) dX11_about_148 ⟨Nat.le_of_ble_eq_true rfl, Nat.le_of_ble_eq_true rfl⟩ (fun r148 G148 iv148 jv148 H locs hp148 hH => ?_)
            obtain ⟨rfl, rfl, rfl, rfl⟩ := hp148
            refine lv_iconst (v := -1) hE.1 hE.2.1 dX11_about_151 (by decide) ?_
            refine lv_icmp_ne (tgt := 159) hE.1 hE.2.1 dX11_about_152 (by decide) (fun c152 => ?_) (fun c152 => ?_)
            · obtain ⟨q, hq⟩ := oI_som c152
              refine lv_iconst (v := nI 1) hE.1 hE.2.1 dX11_about_159 (by decide) ?_
              refine rn_iadd hE dX11_about_160 ?_
              refine lv_istore_n (lv' := [(3, .int (nI ((qUp tab x ++ qRow tab x y).length + 1))), (0, .ref (G.ad 0)), (1, .int (nI T)), (4, .int (nI x)), (5, .int (nI y))]) hE.1 hE.2.1 dX11_about_161 rfl hl (by decide) rfl (fun ls hl => ?_)
              have hl : lv_has ls 6 [(3, .int (nI ((qUp tab x ++ qRow tab x (y + 1)).length))), (0, .ref (G.ad 0)), (1, .int (nI T)), (4, .int (nI x)), (5, .int (nI y))] := by rw [qRow_s (by omega) hq, ← List.append_assoc, List.length_append]; exact hl
              refine lv_iinc (v := nI (y + 1)) (lv' := [(5, .int (nI (y + 1))), (3, .int (nI ((qUp tab x ++ qRow tab x (y + 1)).length))), (0, .ref (G.ad 0)), (1, .int (nI T)), (4, .int (nI x))]) hE.1 hE.2.1 dX11_about_162 hl (k := 4) rfl (nI_1 _) (by decide) rfl (fun ls hl => ?_)
              refine lv_goto (tgt := 130) hE.1 hE.2.1 dX11_about_165 (by decide) ?_
              exact ih130 (y + 1) _ _ _ (by omega) ⟨by omega, by omega⟩ (lv_sub hl [2, 3, 1, 4, 0] rfl) hH
            · rw [oI_m1 (fun k hk2 => by have := qAt_lt hk2; omega)] at c152
              refine lv_iconst (v := nI 0) hE.1 hE.2.1 dX11_about_155 (by decide) ?_
              refine lv_goto (tgt := 160) hE.1 hE.2.1 dX11_about_156 (by decide) ?_
              refine rn_iadd hE dX11_about_160 ?_
              refine lv_istore_n (lv' := [(3, .int (nI ((qUp tab x ++ qRow tab x y).length + 0))), (0, .ref (G.ad 0)), (1, .int (nI T)), (4, .int (nI x)), (5, .int (nI y))]) hE.1 hE.2.1 dX11_about_161 rfl hl (by decide) rfl (fun ls hl => ?_)
              have hl : lv_has ls 6 [(3, .int (nI ((qUp tab x ++ qRow tab x (y + 1)).length))), (0, .ref (G.ad 0)), (1, .int (nI T)), (4, .int (nI x)), (5, .int (nI y))] := by rw [qRow_n (by omega) c152]; exact hl
              refine lv_iinc (v := nI (y + 1)) (lv' := [(5, .int (nI (y + 1))), (3, .int (nI ((qUp tab x ++ qRow tab x (y + 1)).length))), (0, .ref (G.ad 0)), (1, .int (nI T)), (4, .int (nI x))]) hE.1 hE.2.1 dX11_about_162 hl (k := 4) rfl (nI_1 _) (by decide) rfl (fun ls hl => ?_)
              refine lv_goto (tgt := 130) hE.1 hE.2.1 dX11_about_165 (by decide) ?_
              exact ih130 (y + 1) _ _ _ (by omega) ⟨by omega, by omega⟩ (lv_sub hl [2, 3, 1, 4, 0] rfl) hH
      · subst hkw
        refine lv_tableIn (x := nI 6) (off := 155) (tgt := 176) hE.1 hE.2.1 dX11_about_21 (by decide) (by decide) rfl (by decide) ?_
        refine lv_iconst (v := nI 0) hE.1 hE.2.1 dX11_about_176 (by decide) ?_
        refine lv_istore (lv' := [(4, .int (nI 0)), (3, .int (nI 0)), (0, .ref (G.ad 0)), (1, .int (nI T)), (2, .int (nI 6))]) hE.1 hE.2.1 dX11_about_177 hl (by decide) rfl (fun ls hl => ?_)
        refine rg_loop (σ := Nat) (nL := 6) (fun (r : Nat) => tR tab - r) (fun (r : Nat) => [(0, .ref (G.ad 0)), (1, .int (nI T)), (3, .int (nI (cntN (fun r => idl tab r) r))), (4, .int (nI r))]) (fun (r : Nat) => G) (fun (r : Nat) => iv1) (fun (r : Nat) => jv) (fun (r : Nat) => r ≤ tR tab) ?_ (0) (Nat.zero_le _) (lv_sub hl [2, 3, 1, 0] rfl) hH
        rintro r H locs ls hrR hl hH ih179
        try dsimp only at hl hH ih179
        refine lv_iload hE.1 hE.2.1 dX11_about_179 (lv_at hl 3 rfl) ?_
        refine lv_aload_n hE.1 hE.2.1 dX11_about_181 rfl (lv_at hl 0 rfl) ?_
        refine rm_getr hE hH hG fl_X11_23 rfl (by decide) dX11_about_182 ?_
        refine lv_iload_n hE.1 hE.2.1 dX11_about_185 rfl (lv_at hl 1 rfl) ?_
        refine rm_iald hE hH hG (k := 9) (by decide) rfl (N := 6) rfl (n := T) (by omega) (v := nI (tR tab)) (h9) dX11_about_186 ?_
        refine rn_icmp_ge (tgt := 214) hE dX11_about_187 (by decide) (by omega) (by omega) (fun c187 => ?_) (fun c187 => ?_)
        · have hre : r = tR tab := by omega
          subst hre
          refine lv_iload_n hE.1 hE.2.1 dX11_about_214 rfl (lv_at hl 2 rfl) ?_
          exact rg_iret hE hr rfl hlk hH ⟨rfl, rfl, by rw [show spAbout a (nI T) (nI 6) = ok (nI (cntN (fun r => idl tab r) (tR tab))) a by rw [spAbout, onK_t hTl (by omega), onK_t (by decide) (by decide), ← htab]; rfl]; exact ⟨h00, rfl, hS⟩, hF0⟩ dX11_about_215
        · refine lv_iload_n hE.1 hE.2.1 dX11_about_190 rfl (lv_at hl 2 rfl) ?_
          refine lv_aload_n hE.1 hE.2.1 dX11_about_191 rfl (lv_at hl 0 rfl) ?_
          refine lv_iload_n hE.1 hE.2.1 dX11_about_192 rfl (lv_at hl 1 rfl) ?_
          refine lv_iload hE.1 hE.2.1 dX11_about_193 (lv_at hl 3 rfl) ?_
          refine rg_VI (As := [.int (nI T), .int (nI r)]) (rest := [.int (nI (cntN (fun r => idl tab r) r))]) hE hml hH mc_X11_281 (c_isIdle l z G hG iv1 jv T hT tab hFT r (by omega)) hG.1.1 hG.1.2 (by decide) rfl ⟨Nat.le_of_ble_eq_true rfl, Nat.le_of_ble_eq_true rfl⟩ rfl hl.1 (by simp [Value.category]) dX11_about_195 ⟨Nat.le_of_ble_eq_true rfl, Nat.le_of_ble_eq_true rfl⟩ (fun r195 G195 iv195 jv195 H locs hp195 hH => ?_)
          obtain ⟨rfl, rfl, rfl, rfl⟩ := hp195
          refine rn_ifb_eq (tgt := 205) hE dX11_about_198 (by decide) (fun c198 => ?_) (fun c198 => ?_)
          · refine lv_iconst (v := nI 0) hE.1 hE.2.1 dX11_about_205 (by decide) ?_
            refine rn_iadd hE dX11_about_206 ?_
            refine lv_istore_n (lv' := [(3, .int (nI (cntN (fun r => idl tab r) r + 0))), (0, .ref (G.ad 0)), (1, .int (nI T)), (4, .int (nI r))]) hE.1 hE.2.1 dX11_about_207 rfl hl (by decide) rfl (fun ls hl => ?_)
            have hl : lv_has ls 6 [(3, .int (nI (cntN (fun r => idl tab r) (r + 1)))), (0, .ref (G.ad 0)), (1, .int (nI T)), (4, .int (nI r))] := by rw [cntN]; simp only [c198]; exact hl
            refine lv_iinc (v := nI (r + 1)) (lv' := [(4, .int (nI (r + 1))), (3, .int (nI (cntN (fun r => idl tab r) (r + 1)))), (0, .ref (G.ad 0)), (1, .int (nI T))]) hE.1 hE.2.1 dX11_about_208 hl (k := 3) rfl (nI_1 _) (by decide) rfl (fun ls hl => ?_)
            refine lv_goto (tgt := 179) hE.1 hE.2.1 dX11_about_211 (by decide) ?_
            exact ih179 (r + 1) _ _ _ (by omega) (by omega) (lv_sub hl [2, 3, 1, 0] rfl) hH
          · refine lv_iconst (v := nI 1) hE.1 hE.2.1 dX11_about_201 (by decide) ?_
            refine lv_goto (tgt := 206) hE.1 hE.2.1 dX11_about_202 (by decide) ?_
            refine rn_iadd hE dX11_about_206 ?_
            refine lv_istore_n (lv' := [(3, .int (nI (cntN (fun r => idl tab r) r + 1))), (0, .ref (G.ad 0)), (1, .int (nI T)), (4, .int (nI r))]) hE.1 hE.2.1 dX11_about_207 rfl hl (by decide) rfl (fun ls hl => ?_)
            have hl : lv_has ls 6 [(3, .int (nI (cntN (fun r => idl tab r) (r + 1)))), (0, .ref (G.ad 0)), (1, .int (nI T)), (4, .int (nI r))] := by rw [cntN]; simp only [c198]; exact hl
            refine lv_iinc (v := nI (r + 1)) (lv' := [(4, .int (nI (r + 1))), (3, .int (nI (cntN (fun r => idl tab r) (r + 1)))), (0, .ref (G.ad 0)), (1, .int (nI T))]) hE.1 hE.2.1 dX11_about_208 hl (k := 3) rfl (nI_1 _) (by decide) rfl (fun ls hl => ?_)
            refine lv_goto (tgt := 179) hE.1 hE.2.1 dX11_about_211 (by decide) ?_
            exact ih179 (r + 1) _ _ _ (by omega) (by omega) (lv_sub hl [2, 3, 1, 0] rfl) hH
      · subst hkw
        refine lv_tableIn (x := nI 7) (off := 195) (tgt := 216) hE.1 hE.2.1 dX11_about_21 (by decide) (by decide) rfl (by decide) ?_
        refine lv_aload_n hE.1 hE.2.1 dX11_about_216 rfl (lv_at hl 1 rfl) ?_
        refine lv_iload_n hE.1 hE.2.1 dX11_about_217 rfl (lv_at hl 2 rfl) ?_
        refine rg_VV (As := [.int (nI T)]) (rest := []) hE hml hH mc_X11_284 (c_lay l z G hG iv1 jv T hT tab hFT hLD) hG.1.1 hG.1.2 (by decide) rfl ⟨Nat.le_of_ble_eq_true rfl, Nat.le_of_ble_eq_true rfl⟩ rfl hl.1 (by simp [Value.category]) dX11_about_218 ⟨Nat.le_of_ble_eq_true rfl, Nat.le_of_ble_eq_true rfl⟩ (fun G218 iv218 jv218 H locs hp218 hH => ?_)
        obtain ⟨rfl, rfl, hLY, h23, hF218⟩ := hp218
        have hS := hS.lay hTl hF218 (by rw [← htab]; exact hLY) h23
        have hF0 := hF0.tr (hF218.mono (fun lb j h => by simp only [pLY, pM] at h ⊢; omega))
        have h00 : iv218 0 0 = nI 0 := (hF218 0 0 (by simp)).trans h00
        have hFT : FT iv218 T tab := by rw [htab]; exact (hS.2.2.1.2.2.1 T hTl).1
        have hB := hFT.1
        have hk := hFT.2.1
        have hA := hFT.2.2
        have h8 := hB.f.1
        have h10 := hB.f.2.1
        have h9 := hB.f.2.2.1
        have h13 := hB.f.2.2.2.1
        have h14 := hB.f.2.2.2.2.1
        have hm5 := hk.2.1
        have hm1 := hk.1
        have hC := hk.2.2.2.1
        have hR40 := hk.2.2.2.2.2.2.1
        refine lv_aload_n hE.1 hE.2.1 dX11_about_221 rfl (lv_at hl 1 rfl) ?_
        refine rm_getr hE hH hG fl_X11_66 rfl (by decide) dX11_about_222 ?_
        refine lv_iload_n hE.1 hE.2.1 dX11_about_225 rfl (lv_at hl 2 rfl) ?_
        refine rm_iald hE hH hG (k := 24) (by decide) rfl (N := 6) rfl (n := T) (by omega) (v := nI ((rule tab).length)) (hLY.1) dX11_about_226 ?_
        exact rg_iret hE hr rfl hlk hH ⟨rfl, rfl, by rw [show spAbout a (nI T) (nI 7) = ok (nI ((rule tab).length)) a by rw [spAbout, onK_t hTl (by omega), onK_t (by decide) (by decide), ← htab]; rfl]; exact ⟨h00, rfl, hS⟩, hF0⟩ dX11_about_227
      · subst hkw
        refine lv_tableIn (x := nI 8) (off := 207) (tgt := 228) hE.1 hE.2.1 dX11_about_21 (by decide) (by decide) rfl (by decide) ?_
        refine lv_aload_n hE.1 hE.2.1 dX11_about_228 rfl (lv_at hl 1 rfl) ?_
        refine lv_iload_n hE.1 hE.2.1 dX11_about_229 rfl (lv_at hl 2 rfl) ?_
        refine rg_VV (As := [.int (nI T)]) (rest := []) hE hml hH mc_X11_284 (c_lay l z G hG iv1 jv T hT tab hFT hLD) hG.1.1 hG.1.2 (by decide) rfl ⟨Nat.le_of_ble_eq_true rfl, Nat.le_of_ble_eq_true rfl⟩ rfl hl.1 (by simp [Value.category]) dX11_about_230 ⟨Nat.le_of_ble_eq_true rfl, Nat.le_of_ble_eq_true rfl⟩ (fun G230 iv230 jv230 H locs hp230 hH => ?_)
        obtain ⟨rfl, rfl, hLY, h23, hF230⟩ := hp230
        have hS := hS.lay hTl hF230 (by rw [← htab]; exact hLY) h23
        have hF0 := hF0.tr (hF230.mono (fun lb j h => by simp only [pLY, pM] at h ⊢; omega))
        have h00 : iv230 0 0 = nI 0 := (hF230 0 0 (by simp)).trans h00
        have hFT : FT iv230 T tab := by rw [htab]; exact (hS.2.2.1.2.2.1 T hTl).1
        have hB := hFT.1
        have hk := hFT.2.1
        have hA := hFT.2.2
        have h8 := hB.f.1
        have h10 := hB.f.2.1
        have h9 := hB.f.2.2.1
        have h13 := hB.f.2.2.2.1
        have h14 := hB.f.2.2.2.2.1
        have hm5 := hk.2.1
        have hm1 := hk.1
        have hC := hk.2.2.2.1
        have hR40 := hk.2.2.2.2.2.2.1
        refine lv_aload_n hE.1 hE.2.1 dX11_about_233 rfl (lv_at hl 1 rfl) ?_
        refine rm_getr hE hH hG fl_X11_75 rfl (by decide) dX11_about_234 ?_
        refine lv_iload_n hE.1 hE.2.1 dX11_about_237 rfl (lv_at hl 2 rfl) ?_
        refine rm_iald hE hH hG (k := 27) (by decide) rfl (N := 6) rfl (n := T) (by omega) (v := nI ((offers tab).length)) (hLY.2.2.1) dX11_about_238 ?_
        exact rg_iret hE hr rfl hlk hH ⟨rfl, rfl, by rw [show spAbout a (nI T) (nI 8) = ok (nI ((offers tab).length)) a by rw [spAbout, onK_t hTl (by omega), onK_t (by decide) (by decide), ← htab]; rfl]; exact ⟨h00, rfl, hS⟩, hF0⟩ dX11_about_239
    · refine lv_tableOut (tgt := 240) hE.1 hE.2.1 dX11_about_21 (by have := inI_out (by decide) hw21; omega) (by decide) ?_
      refine lv_aload_n hE.1 hE.2.1 dX11_about_240 rfl (lv_at hl 1 rfl) ?_
      refine rg_VI (As := []) (rest := []) hE hml hH mc_X11_215 (c_fail l z G hG iv1 jv) hG.1.1 hG.1.2 (by decide) rfl ⟨Nat.le_of_ble_eq_true rfl, Nat.le_of_ble_eq_true rfl⟩ rfl hl.1 (by simp [Value.category]) dX11_about_241 ⟨Nat.le_of_ble_eq_true rfl, Nat.le_of_ble_eq_true rfl⟩ (fun r241 G241 iv241 jv241 H locs hp241 hH => ?_)
      obtain ⟨rfl, rfl, rfl, rfl⟩ := hp241
      exact rg_iret hE hr rfl hlk hH ⟨rfl, rfl, by rw [show spAbout a (nI T) w = no 1 a by rw [spAbout, onK_t hTl (by omega), onK_f (by simpa using hw21)]]; exact ⟨rfl, rfl, hS.c0⟩, hF0.tr up0_M⟩ dX11_about_244
  · refine lv_aload_n hE.1 hE.2.1 dX11_about_13 rfl (lv_at hl 0 rfl) ?_
    refine rg_VI (As := []) (rest := []) hE hml hH mc_X11_215 (c_fail l z G hG iv1 jv) hG.1.1 hG.1.2 (by decide) rfl ⟨Nat.le_of_ble_eq_true rfl, Nat.le_of_ble_eq_true rfl⟩ rfl hl.1 (by simp [Value.category]) dX11_about_14 ⟨Nat.le_of_ble_eq_true rfl, Nat.le_of_ble_eq_true rfl⟩ (fun r14 G14 iv14 jv14 H locs hp14 hH => ?_)
    obtain ⟨rfl, rfl, rfl, rfl⟩ := hp14
    exact rg_iret hE hr rfl hlk hH ⟨rfl, rfl, by rw [show spAbout a t w = no 1 a by rw [spAbout, onK_f c10]]; exact ⟨rfl, rfl, hS.c0⟩, hF0.tr up0_M⟩ dX11_about_17
set_option maxRecDepth 100000 in
set_option maxHeartbeats 4000000 in
theorem c_answer (l : Launch) (z : ZK) (G : GW) (hG : isM G) (iv : IV) (jv : JV) (a : AS) (hS : MSt iv a) (t cx wx : Int32) : cI l z yX11_answer cX11_answer 6 (some .int) 3 75 0 0 [.ref (G.ad 0), .int (t), .int (cx), .int (wx)] G iv jv (fun r G' iv' jv' => G = G' ∧ jv = jv' ∧ (iv' 0 0 = nI (spAnswer a t cx wx).1 ∧ r = (spAnswer a t cx wx).2.1 ∧ MSt iv' (spAnswer a t cx wx).2.2) ∧ Fr iv iv' pM) := by
  intro sz
  refine rg_entry rfl (Nat.le_of_ble_eq_true rfl) ?_
  intro pq eq sq mq bq methq cq ls hE hr hlk hml hnm hl hsz hH
  have hl : lv_has ls 6 [(0, .ref (G.ad 0)), (1, .int (t)), (2, .int (cx)), (3, .int (wx))] := hl
  refine lv_aload_n hE.1 hE.2.1 dX11_answer_0 rfl (lv_at hl 0 rfl) ?_
  refine lv_iconst (v := nI 0) hE.1 hE.2.1 dX11_answer_1 (by decide) ?_
  refine rm_puti hE hH hG fl_X11_96 rfl fn_X11_0 (v := nI 0) dX11_answer_2 (fun H locs hH => ?_)
  have hF0 : Fr iv (up2 iv 0 0 (nI 0)) pM := up0_M
  have hS : MSt (up2 iv 0 0 (nI 0)) a := hS.c0
  have h00 : (up2 iv 0 0 (nI 0)) 0 0 = nI 0 := rfl
  generalize up2 iv 0 0 (nI 0) = iv1 at hH hS hF0 h00
  have hS6 := hS.2.2.1.2.1
  have hS12 := hS.2.2.2.1.2.1
  have hS3 := hS.1.2.1
  have hSo := hS.2.2.2.2.2.1
  refine lv_aload_n hE.1 hE.2.1 dX11_answer_5 rfl (lv_at hl 0 rfl) ?_
  refine lv_iload_n hE.1 hE.2.1 dX11_answer_6 rfl (lv_at hl 1 rfl) ?_
  refine rg_VI (As := [.int (t)]) (rest := []) hE hml hH mc_X11_231 (c_isTable l z G hG iv1 jv t (aT a).length hS.2.2.1.1) hG.1.1 hG.1.2 (by decide) rfl ⟨Nat.le_of_ble_eq_true rfl, Nat.le_of_ble_eq_true rfl⟩ rfl hl.1 (by simp [Value.category]) dX11_answer_7 ⟨Nat.le_of_ble_eq_true rfl, Nat.le_of_ble_eq_true rfl⟩ (fun r7 G7 iv7 jv7 H locs hp7 hH => ?_)
  obtain ⟨rfl, rfl, rfl, rfl⟩ := hp7
  refine rn_ifb_eq (tgt := 35) hE dX11_answer_10 (by decide) (fun c10 => ?_) (fun c10 => ?_)
  · refine lv_aload_n hE.1 hE.2.1 dX11_answer_35 rfl (lv_at hl 0 rfl) ?_
    refine rg_VI (As := []) (rest := []) hE hml hH mc_X11_215 (c_fail l z G hG iv1 jv) hG.1.1 hG.1.2 (by decide) rfl ⟨Nat.le_of_ble_eq_true rfl, Nat.le_of_ble_eq_true rfl⟩ rfl hl.1 (by simp [Value.category]) dX11_answer_36 ⟨Nat.le_of_ble_eq_true rfl, Nat.le_of_ble_eq_true rfl⟩ (fun r36 G36 iv36 jv36 H locs hp36 hH => ?_)
    obtain ⟨rfl, rfl, rfl, rfl⟩ := hp36
    exact rg_iret hE hr rfl hlk hH ⟨rfl, rfl, by rw [show spAnswer a t cx wx = no 1 a by rw [spAnswer, onK_f c10]]; exact ⟨rfl, rfl, hS.c0⟩, hF0.tr up0_M⟩ dX11_answer_39
  · obtain ⟨T, hTl, rfl⟩ := inI_of (by omega) c10
    have hT : T < 6 := by omega
    obtain ⟨tab, htab⟩ : ∃ x, x = aTb a T := ⟨_, rfl⟩
    have hFT : FT iv1 T tab := by rw [htab]; exact (hS.2.2.1.2.2.1 T hTl).1
    have hTW : tabW tab := by rw [htab]; exact (hS.2.2.1.2.2.1 T hTl).2.1
    have hLD : LD iv1 T tab := by rw [htab]; exact (hS.2.2.1.2.2.1 T hTl).2.2
    have hB := hFT.1
    have hk := hFT.2.1
    have hA := hFT.2.2
    have h8 := hB.f.1
    have h10 := hB.f.2.1
    have h9 := hB.f.2.2.1
    have h13 := hB.f.2.2.2.1
    have h14 := hB.f.2.2.2.2.1
    have hm5 := hk.2.1
    have hm1 := hk.1
    have hC := hk.2.2.2.1
    have hR40 := hk.2.2.2.2.2.2.1
    refine lv_iload_n hE.1 hE.2.1 dX11_answer_13 rfl (lv_at hl 2 rfl) ?_
    refine lv_if_lt (tgt := 35) hE.1 hE.2.1 dX11_answer_14 (by decide) (fun c14 => ?_) (fun c14 => ?_)
    · refine lv_aload_n hE.1 hE.2.1 dX11_answer_35 rfl (lv_at hl 0 rfl) ?_
      refine rg_VI (As := []) (rest := []) hE hml hH mc_X11_215 (c_fail l z G hG iv1 jv) hG.1.1 hG.1.2 (by decide) rfl ⟨Nat.le_of_ble_eq_true rfl, Nat.le_of_ble_eq_true rfl⟩ rfl hl.1 (by simp [Value.category]) dX11_answer_36 ⟨Nat.le_of_ble_eq_true rfl, Nat.le_of_ble_eq_true rfl⟩ (fun r36 G36 iv36 jv36 H locs hp36 hH => ?_)
      obtain ⟨rfl, rfl, rfl, rfl⟩ := hp36
      exact rg_iret hE hr rfl hlk hH ⟨rfl, rfl, by rw [show spAnswer a (nI T) cx wx = no 1 a by rw [spAnswer, onK_t hTl (by omega), ← htab, onK_f (inI_lt c14)]]; exact ⟨rfl, rfl, hS.c0⟩, hF0.tr up0_M⟩ dX11_answer_39
    · refine lv_iload_n hE.1 hE.2.1 dX11_answer_17 rfl (lv_at hl 2 rfl) ?_
      refine lv_aload_n hE.1 hE.2.1 dX11_answer_18 rfl (lv_at hl 0 rfl) ?_
      refine lv_iload_n hE.1 hE.2.1 dX11_answer_19 rfl (lv_at hl 1 rfl) ?_
      refine rg_VI (As := [.int (nI T)]) (rest := [.int (cx)]) hE hml hH mc_X11_205 (c_casesOf l z G hG iv1 jv T (tm tab) hT hm5 (tf tab) h8 h10) hG.1.1 hG.1.2 (by decide) rfl ⟨Nat.le_of_ble_eq_true rfl, Nat.le_of_ble_eq_true rfl⟩ rfl hl.1 (by simp [Value.category]) dX11_answer_20 ⟨Nat.le_of_ble_eq_true rfl, Nat.le_of_ble_eq_true rfl⟩ (fun r20 G20 iv20 jv20 H locs hp20 hH => ?_)
      obtain ⟨rfl, rfl, rfl, rfl⟩ := hp20
      refine rn_as (v' := nI (tC tab)) rfl ?_
      refine lv_icmp_ge (tgt := 35) hE.1 hE.2.1 dX11_answer_23 (by decide) (fun c23 => ?_) (fun c23 => ?_)
      · refine lv_aload_n hE.1 hE.2.1 dX11_answer_35 rfl (lv_at hl 0 rfl) ?_
        refine rg_VI (As := []) (rest := []) hE hml hH mc_X11_215 (c_fail l z G hG iv1 jv) hG.1.1 hG.1.2 (by decide) rfl ⟨Nat.le_of_ble_eq_true rfl, Nat.le_of_ble_eq_true rfl⟩ rfl hl.1 (by simp [Value.category]) dX11_answer_36 ⟨Nat.le_of_ble_eq_true rfl, Nat.le_of_ble_eq_true rfl⟩ (fun r36 G36 iv36 jv36 H locs hp36 hH => ?_)
        obtain ⟨rfl, rfl, rfl, rfl⟩ := hp36
        exact rg_iret hE hr rfl hlk hH ⟨rfl, rfl, by rw [show spAnswer a (nI T) cx wx = no 1 a by rw [spAnswer, onK_t hTl (by omega), ← htab, onK_f (inI_ge c23)]]; exact ⟨rfl, rfl, hS.c0⟩, hF0.tr up0_M⟩ dX11_answer_39
      · obtain ⟨c, hc, rfl⟩ := inI_of (by omega) (inI_t c14 c23)
        refine lv_iload_n hE.1 hE.2.1 dX11_answer_26 rfl (lv_at hl 3 rfl) ?_
        refine lv_if_lt (tgt := 35) hE.1 hE.2.1 dX11_answer_27 (by decide) (fun c27 => ?_) (fun c27 => ?_)
        · refine lv_aload_n hE.1 hE.2.1 dX11_answer_35 rfl (lv_at hl 0 rfl) ?_
          refine rg_VI (As := []) (rest := []) hE hml hH mc_X11_215 (c_fail l z G hG iv1 jv) hG.1.1 hG.1.2 (by decide) rfl ⟨Nat.le_of_ble_eq_true rfl, Nat.le_of_ble_eq_true rfl⟩ rfl hl.1 (by simp [Value.category]) dX11_answer_36 ⟨Nat.le_of_ble_eq_true rfl, Nat.le_of_ble_eq_true rfl⟩ (fun r36 G36 iv36 jv36 H locs hp36 hH => ?_)
          obtain ⟨rfl, rfl, rfl, rfl⟩ := hp36
          exact rg_iret hE hr rfl hlk hH ⟨rfl, rfl, by rw [show spAnswer a (nI T) (nI c) wx = no 1 a by rw [spAnswer, onK_t hTl (by omega), ← htab, onK_t hc (by omega), onK_f (inI_lt c27)]]; exact ⟨rfl, rfl, hS.c0⟩, hF0.tr up0_M⟩ dX11_answer_39
        · refine lv_iload_n hE.1 hE.2.1 dX11_answer_30 rfl (lv_at hl 3 rfl) ?_
          refine lv_iconst (v := nI 2) hE.1 hE.2.1 dX11_answer_31 (by decide) ?_
          refine lv_icmp_le (tgt := 40) hE.1 hE.2.1 dX11_answer_32 (by decide) (fun c32 => ?_) (fun c32 => ?_)
          · obtain ⟨w, hw, rfl⟩ := inI_of (by decide) (inI_le (by decide) c27 c32)
            refine lv_iconst (v := nI 0) hE.1 hE.2.1 dX11_answer_40 (by decide) ?_
            refine lv_istore (lv' := [(4, .int (nI 0)), (0, .ref (G.ad 0)), (1, .int (nI T)), (2, .int (nI c)), (3, .int (nI w))]) hE.1 hE.2.1 dX11_answer_41 hl (by decide) rfl (fun ls hl => ?_)
            refine lv_iconst (v := nI 0) hE.1 hE.2.1 dX11_answer_43 (by decide) ?_
            refine lv_istore (lv' := [(5, .int (nI 0)), (4, .int (nI 0)), (0, .ref (G.ad 0)), (1, .int (nI T)), (2, .int (nI c)), (3, .int (nI w))]) hE.1 hE.2.1 dX11_answer_44 hl (by decide) rfl (fun ls hl => ?_)
            refine rg_loop (σ := Nat) (nL := 6) (fun (r : Nat) => tR tab - r) (fun (r : Nat) => [(0, .ref (G.ad 0)), (1, .int (nI T)), (2, .int (nI c)), (3, .int (nI w)), (4, .int (nI (cntN (fun r => fit tab r c) r))), (5, .int (nI r))]) (fun (r : Nat) => G) (fun (r : Nat) => iv1) (fun (r : Nat) => jv) (fun (r : Nat) => r ≤ tR tab) ?_ (0) (Nat.zero_le _) (lv_sub hl [2, 3, 4, 5, 1, 0] rfl) hH
            rintro r H locs ls hrR hl hH ih46
            try dsimp only at hl hH ih46
            refine lv_iload hE.1 hE.2.1 dX11_answer_46 (lv_at hl 5 rfl) ?_
            refine lv_aload_n hE.1 hE.2.1 dX11_answer_48 rfl (lv_at hl 0 rfl) ?_
            refine rm_getr hE hH hG fl_X11_23 rfl (by decide) dX11_answer_49 ?_
            refine lv_iload_n hE.1 hE.2.1 dX11_answer_52 rfl (lv_at hl 1 rfl) ?_
            refine rm_iald hE hH hG (k := 9) (by decide) rfl (N := 6) rfl (n := T) (by omega) (v := nI (tR tab)) (h9) dX11_answer_53 ?_
            refine rn_icmp_ge (tgt := 84) hE dX11_answer_54 (by decide) (by omega) (by omega) (fun c54 => ?_) (fun c54 => ?_)
            · have hre : r = tR tab := by omega
              subst hre
              refine lv_iload_n hE.1 hE.2.1 dX11_answer_84 rfl (lv_at hl 3 rfl) ?_
              refine rn_if_ne (tgt := 97) hE dX11_answer_85 (by decide) (by omega) (fun c85 => ?_) (fun c85 => ?_)
              · refine lv_iload_n hE.1 hE.2.1 dX11_answer_97 rfl (lv_at hl 3 rfl) ?_
                refine lv_iconst (v := nI 1) hE.1 hE.2.1 dX11_answer_98 (by decide) ?_
                refine rn_icmp_ne (tgt := 117) hE dX11_answer_99 (by decide) (by omega) (by omega) (fun c99 => ?_) (fun c99 => ?_)
                · refine lv_iload hE.1 hE.2.1 dX11_answer_117 (lv_at hl 4 rfl) ?_
                  exact rg_iret hE hr rfl hlk hH ⟨rfl, rfl, by rw [show spAnswer a (nI T) (nI c) (nI w) = ok (nI (cntN (fun r => fit tab r c) (tR tab))) a by rw [spAnswer, onK_t hTl (by omega), ← htab, onK_t hc (by omega), onK_t hw (by decide), if_neg c85, if_neg c99]]; exact ⟨h00, rfl, hS⟩, hF0⟩ dX11_answer_119
                · refine lv_aload_n hE.1 hE.2.1 dX11_answer_102 rfl (lv_at hl 0 rfl) ?_
                  refine rm_getr hE hH hG fl_X11_41 rfl (by decide) dX11_answer_103 ?_
                  refine lv_sipush (v := nI 400) hE.1 hE.2.1 dX11_answer_106 (by decide) ?_
                  refine lv_iload_n hE.1 hE.2.1 dX11_answer_109 rfl (lv_at hl 1 rfl) ?_
                  refine rn_imul hE dX11_answer_110 ?_
                  refine lv_iload_n hE.1 hE.2.1 dX11_answer_111 rfl (lv_at hl 2 rfl) ?_
                  refine rn_iadd hE dX11_answer_112 ?_
                  refine rm_iald hE hH hG (k := 15) (by decide) rfl (N := 2400) rfl (n := 400 * T + c) (by omega) (v := oI (frow tab c)) (hA c hc) dX11_answer_113 ?_
                  refine lv_goto (tgt := 119) hE.1 hE.2.1 dX11_answer_114 (by decide) ?_
                  exact rg_iret hE hr rfl hlk hH ⟨rfl, rfl, by rw [show spAnswer a (nI T) (nI c) (nI w) = ok (oI (frow tab c)) a by rw [spAnswer, onK_t hTl (by omega), ← htab, onK_t hc (by omega), onK_t hw (by decide), if_neg c85, if_pos c99]]; exact ⟨h00, rfl, hS⟩, hF0⟩ dX11_answer_119
              · refine lv_aload_n hE.1 hE.2.1 dX11_answer_88 rfl (lv_at hl 0 rfl) ?_
                refine lv_iload_n hE.1 hE.2.1 dX11_answer_89 rfl (lv_at hl 1 rfl) ?_
                refine lv_iload_n hE.1 hE.2.1 dX11_answer_90 rfl (lv_at hl 2 rfl) ?_
                refine rg_VI (As := [.int (nI T), .int (nI c)]) (rest := []) hE hml hH mc_X11_253 (c_answerOf l z G hG iv1 jv T hT tab hFT c (by omega)) hG.1.1 hG.1.2 (by decide) rfl ⟨Nat.le_of_ble_eq_true rfl, Nat.le_of_ble_eq_true rfl⟩ rfl hl.1 (by simp [Value.category]) dX11_answer_91 ⟨Nat.le_of_ble_eq_true rfl, Nat.le_of_ble_eq_true rfl⟩ (fun r91 G91 iv91 jv91 H locs hp91 hH => ?_)
                obtain ⟨rfl, rfl, rfl, rfl⟩ := hp91
                refine lv_goto (tgt := 119) hE.1 hE.2.1 dX11_answer_94 (by decide) ?_
                exact rg_iret hE hr rfl hlk hH ⟨rfl, rfl, by rw [show spAnswer a (nI T) (nI c) (nI w) = ok (oI (ans tab c)) a by rw [spAnswer, onK_t hTl (by omega), ← htab, onK_t hc (by omega), onK_t hw (by decide), if_pos c85]]; exact ⟨h00, rfl, hS⟩, hF0⟩ dX11_answer_119
            · refine lv_iload hE.1 hE.2.1 dX11_answer_57 (lv_at hl 4 rfl) ?_
              refine lv_aload_n hE.1 hE.2.1 dX11_answer_59 rfl (lv_at hl 0 rfl) ?_
              refine lv_iload_n hE.1 hE.2.1 dX11_answer_60 rfl (lv_at hl 1 rfl) ?_
              refine lv_iload hE.1 hE.2.1 dX11_answer_61 (lv_at hl 5 rfl) ?_
              refine lv_iload_n hE.1 hE.2.1 dX11_answer_63 rfl (lv_at hl 2 rfl) ?_
              refine rg_VI (As := [.int (nI T), .int (nI r), .int (nI c)]) (rest := [.int (nI (cntN (fun r => fit tab r c) r))]) hE hml hH mc_X11_243 (c_fits l z G hG iv1 jv T hT tab hk hB r c (by omega) (by omega)) hG.1.1 hG.1.2 (by decide) rfl ⟨Nat.le_of_ble_eq_true rfl, Nat.le_of_ble_eq_true rfl⟩ rfl hl.1 (by simp [Value.category]) dX11_answer_64 ⟨Nat.le_of_ble_eq_true rfl, Nat.le_of_ble_eq_true rfl⟩ (fun r64 G64 iv64 jv64 H locs hp64 hH => ?_)
              obtain ⟨rfl, rfl, rfl, rfl⟩ := hp64
              refine rn_ifb_eq (tgt := 74) hE dX11_answer_67 (by decide) (fun c67 => ?_) (fun c67 => ?_)
              · refine lv_iconst (v := nI 0) hE.1 hE.2.1 dX11_answer_74 (by decide) ?_
                refine rn_iadd hE dX11_answer_75 ?_
                refine lv_istore (lv' := [(4, .int (nI (cntN (fun r => fit tab r c) r + 0))), (0, .ref (G.ad 0)), (1, .int (nI T)), (2, .int (nI c)), (3, .int (nI w)), (5, .int (nI r))]) hE.1 hE.2.1 dX11_answer_76 hl (by decide) rfl (fun ls hl => ?_)
                have hl : lv_has ls 6 [(4, .int (nI (cntN (fun r => fit tab r c) (r + 1)))), (0, .ref (G.ad 0)), (1, .int (nI T)), (2, .int (nI c)), (3, .int (nI w)), (5, .int (nI r))] := by rw [cntN]; simp only [c67]; exact hl
                refine lv_iinc (v := nI (r + 1)) (lv' := [(5, .int (nI (r + 1))), (4, .int (nI (cntN (fun r => fit tab r c) (r + 1)))), (0, .ref (G.ad 0)), (1, .int (nI T)), (2, .int (nI c)), (3, .int (nI w))]) hE.1 hE.2.1 dX11_answer_78 hl (k := 5) rfl (nI_1 _) (by decide) rfl (fun ls hl => ?_)
                refine lv_goto (tgt := 46) hE.1 hE.2.1 dX11_answer_81 (by decide) ?_
                exact ih46 (r + 1) _ _ _ (by omega) (by omega) (lv_sub hl [2, 3, 4, 5, 1, 0] rfl) hH
              · refine lv_iconst (v := nI 1) hE.1 hE.2.1 dX11_answer_70 (by decide) ?_
                refine lv_goto (tgt := 75) hE.1 hE.2.1 dX11_answer_71 (by decide) ?_
                refine rn_iadd hE dX11_answer_75 ?_
                refine lv_istore (lv' := [(4, .int (nI (cntN (fun r => fit tab r c) r + 1))), (0, .ref (G.ad 0)), (1, .int (nI T)), (2, .int (nI c)), (3, .int (nI w)), (5, .int (nI r))]) hE.1 hE.2.1 dX11_answer_76 hl (by decide) rfl (fun ls hl => ?_)
                have hl : lv_has ls 6 [(4, .int (nI (cntN (fun r => fit tab r c) (r + 1)))), (0, .ref (G.ad 0)), (1, .int (nI T)), (2, .int (nI c)), (3, .int (nI w)), (5, .int (nI r))] := by rw [cntN]; simp only [c67]; exact hl
                refine lv_iinc (v := nI (r + 1)) (lv' := [(5, .int (nI (r + 1))), (4, .int (nI (cntN (fun r => fit tab r c) (r + 1)))), (0, .ref (G.ad 0)), (1, .int (nI T)), (2, .int (nI c)), (3, .int (nI w))]) hE.1 hE.2.1 dX11_answer_78 hl (k := 5) rfl (nI_1 _) (by decide) rfl (fun ls hl => ?_)
                refine lv_goto (tgt := 46) hE.1 hE.2.1 dX11_answer_81 (by decide) ?_
                exact ih46 (r + 1) _ _ _ (by omega) (by omega) (lv_sub hl [2, 3, 4, 5, 1, 0] rfl) hH
          · refine lv_aload_n hE.1 hE.2.1 dX11_answer_35 rfl (lv_at hl 0 rfl) ?_
            refine rg_VI (As := []) (rest := []) hE hml hH mc_X11_215 (c_fail l z G hG iv1 jv) hG.1.1 hG.1.2 (by decide) rfl ⟨Nat.le_of_ble_eq_true rfl, Nat.le_of_ble_eq_true rfl⟩ rfl hl.1 (by simp [Value.category]) dX11_answer_36 ⟨Nat.le_of_ble_eq_true rfl, Nat.le_of_ble_eq_true rfl⟩ (fun r36 G36 iv36 jv36 H locs hp36 hH => ?_)
            obtain ⟨rfl, rfl, rfl, rfl⟩ := hp36
            exact rg_iret hE hr rfl hlk hH ⟨rfl, rfl, by rw [show spAnswer a (nI T) (nI c) wx = no 1 a by rw [spAnswer, onK_t hTl (by omega), ← htab, onK_t hc (by omega), onK_f (inI_gt (by decide) c32)]]; exact ⟨rfl, rfl, hS.c0⟩, hF0.tr up0_M⟩ dX11_answer_39
set_option maxRecDepth 100000 in
set_option maxHeartbeats 4000000 in
theorem c_value (l : Launch) (z : ZK) (G : GW) (hG : isM G) (iv : IV) (jv : JV) (a : AS) (hS : MSt iv a) (t cx ix : Int32) : cI l z yX11_value cX11_value 4 (some .int) 3 75 0 0 [.ref (G.ad 0), .int (t), .int (cx), .int (ix)] G iv jv (fun r G' iv' jv' => G = G' ∧ jv = jv' ∧ (iv' 0 0 = nI (spValue a t cx ix).1 ∧ r = (spValue a t cx ix).2.1 ∧ MSt iv' (spValue a t cx ix).2.2) ∧ Fr iv iv' pM) := by
  intro sz
  refine rg_entry rfl (Nat.le_of_ble_eq_true rfl) ?_
  intro pq eq sq mq bq methq cq ls hE hr hlk hml hnm hl hsz hH
  have hl : lv_has ls 4 [(0, .ref (G.ad 0)), (1, .int (t)), (2, .int (cx)), (3, .int (ix))] := hl
  refine lv_aload_n hE.1 hE.2.1 dX11_value_0 rfl (lv_at hl 0 rfl) ?_
  refine lv_iconst (v := nI 0) hE.1 hE.2.1 dX11_value_1 (by decide) ?_
  refine rm_puti hE hH hG fl_X11_96 rfl fn_X11_0 (v := nI 0) dX11_value_2 (fun H locs hH => ?_)
  have hF0 : Fr iv (up2 iv 0 0 (nI 0)) pM := up0_M
  have hS : MSt (up2 iv 0 0 (nI 0)) a := hS.c0
  have h00 : (up2 iv 0 0 (nI 0)) 0 0 = nI 0 := rfl
  generalize up2 iv 0 0 (nI 0) = iv1 at hH hS hF0 h00
  have hS6 := hS.2.2.1.2.1
  have hS12 := hS.2.2.2.1.2.1
  have hS3 := hS.1.2.1
  have hSo := hS.2.2.2.2.2.1
  refine lv_aload_n hE.1 hE.2.1 dX11_value_5 rfl (lv_at hl 0 rfl) ?_
  refine lv_iload_n hE.1 hE.2.1 dX11_value_6 rfl (lv_at hl 1 rfl) ?_
  refine rg_VI (As := [.int (t)]) (rest := []) hE hml hH mc_X11_231 (c_isTable l z G hG iv1 jv t (aT a).length hS.2.2.1.1) hG.1.1 hG.1.2 (by decide) rfl ⟨Nat.le_of_ble_eq_true rfl, Nat.le_of_ble_eq_true rfl⟩ rfl hl.1 (by simp [Value.category]) dX11_value_7 ⟨Nat.le_of_ble_eq_true rfl, Nat.le_of_ble_eq_true rfl⟩ (fun r7 G7 iv7 jv7 H locs hp7 hH => ?_)
  obtain ⟨rfl, rfl, rfl, rfl⟩ := hp7
  refine rn_ifb_eq (tgt := 40) hE dX11_value_10 (by decide) (fun c10 => ?_) (fun c10 => ?_)
  · refine lv_aload_n hE.1 hE.2.1 dX11_value_40 rfl (lv_at hl 0 rfl) ?_
    refine rg_VI (As := []) (rest := []) hE hml hH mc_X11_215 (c_fail l z G hG iv1 jv) hG.1.1 hG.1.2 (by decide) rfl ⟨Nat.le_of_ble_eq_true rfl, Nat.le_of_ble_eq_true rfl⟩ rfl hl.1 (by simp [Value.category]) dX11_value_41 ⟨Nat.le_of_ble_eq_true rfl, Nat.le_of_ble_eq_true rfl⟩ (fun r41 G41 iv41 jv41 H locs hp41 hH => ?_)
    obtain ⟨rfl, rfl, rfl, rfl⟩ := hp41
    exact rg_iret hE hr rfl hlk hH ⟨rfl, rfl, by rw [show spValue a t cx ix = no 1 a by rw [spValue, onK_f c10]]; exact ⟨rfl, rfl, hS.c0⟩, hF0.tr up0_M⟩ dX11_value_44
  · obtain ⟨T, hTl, rfl⟩ := inI_of (by omega) c10
    have hT : T < 6 := by omega
    obtain ⟨tab, htab⟩ : ∃ x, x = aTb a T := ⟨_, rfl⟩
    have hFT : FT iv1 T tab := by rw [htab]; exact (hS.2.2.1.2.2.1 T hTl).1
    have hTW : tabW tab := by rw [htab]; exact (hS.2.2.1.2.2.1 T hTl).2.1
    have hLD : LD iv1 T tab := by rw [htab]; exact (hS.2.2.1.2.2.1 T hTl).2.2
    have hB := hFT.1
    have hk := hFT.2.1
    have hA := hFT.2.2
    have h8 := hB.f.1
    have h10 := hB.f.2.1
    have h9 := hB.f.2.2.1
    have h13 := hB.f.2.2.2.1
    have h14 := hB.f.2.2.2.2.1
    have hm5 := hk.2.1
    have hm1 := hk.1
    have hC := hk.2.2.2.1
    have hR40 := hk.2.2.2.2.2.2.1
    refine lv_iload_n hE.1 hE.2.1 dX11_value_13 rfl (lv_at hl 2 rfl) ?_
    refine lv_if_lt (tgt := 40) hE.1 hE.2.1 dX11_value_14 (by decide) (fun c14 => ?_) (fun c14 => ?_)
    · refine lv_aload_n hE.1 hE.2.1 dX11_value_40 rfl (lv_at hl 0 rfl) ?_
      refine rg_VI (As := []) (rest := []) hE hml hH mc_X11_215 (c_fail l z G hG iv1 jv) hG.1.1 hG.1.2 (by decide) rfl ⟨Nat.le_of_ble_eq_true rfl, Nat.le_of_ble_eq_true rfl⟩ rfl hl.1 (by simp [Value.category]) dX11_value_41 ⟨Nat.le_of_ble_eq_true rfl, Nat.le_of_ble_eq_true rfl⟩ (fun r41 G41 iv41 jv41 H locs hp41 hH => ?_)
      obtain ⟨rfl, rfl, rfl, rfl⟩ := hp41
      exact rg_iret hE hr rfl hlk hH ⟨rfl, rfl, by rw [show spValue a (nI T) cx ix = no 1 a by rw [spValue, onK_t hTl (by omega), ← htab, onK_f (inI_lt c14)]]; exact ⟨rfl, rfl, hS.c0⟩, hF0.tr up0_M⟩ dX11_value_44
    · refine lv_iload_n hE.1 hE.2.1 dX11_value_17 rfl (lv_at hl 2 rfl) ?_
      refine lv_aload_n hE.1 hE.2.1 dX11_value_18 rfl (lv_at hl 0 rfl) ?_
      refine lv_iload_n hE.1 hE.2.1 dX11_value_19 rfl (lv_at hl 1 rfl) ?_
      refine rg_VI (As := [.int (nI T)]) (rest := [.int (cx)]) hE hml hH mc_X11_205 (c_casesOf l z G hG iv1 jv T (tm tab) hT hm5 (tf tab) h8 h10) hG.1.1 hG.1.2 (by decide) rfl ⟨Nat.le_of_ble_eq_true rfl, Nat.le_of_ble_eq_true rfl⟩ rfl hl.1 (by simp [Value.category]) dX11_value_20 ⟨Nat.le_of_ble_eq_true rfl, Nat.le_of_ble_eq_true rfl⟩ (fun r20 G20 iv20 jv20 H locs hp20 hH => ?_)
      obtain ⟨rfl, rfl, rfl, rfl⟩ := hp20
      refine rn_as (v' := nI (tC tab)) rfl ?_
      refine lv_icmp_ge (tgt := 40) hE.1 hE.2.1 dX11_value_23 (by decide) (fun c23 => ?_) (fun c23 => ?_)
      · refine lv_aload_n hE.1 hE.2.1 dX11_value_40 rfl (lv_at hl 0 rfl) ?_
        refine rg_VI (As := []) (rest := []) hE hml hH mc_X11_215 (c_fail l z G hG iv1 jv) hG.1.1 hG.1.2 (by decide) rfl ⟨Nat.le_of_ble_eq_true rfl, Nat.le_of_ble_eq_true rfl⟩ rfl hl.1 (by simp [Value.category]) dX11_value_41 ⟨Nat.le_of_ble_eq_true rfl, Nat.le_of_ble_eq_true rfl⟩ (fun r41 G41 iv41 jv41 H locs hp41 hH => ?_)
        obtain ⟨rfl, rfl, rfl, rfl⟩ := hp41
        exact rg_iret hE hr rfl hlk hH ⟨rfl, rfl, by rw [show spValue a (nI T) cx ix = no 1 a by rw [spValue, onK_t hTl (by omega), ← htab, onK_f (inI_ge c23)]]; exact ⟨rfl, rfl, hS.c0⟩, hF0.tr up0_M⟩ dX11_value_44
      · obtain ⟨c, hc, rfl⟩ := inI_of (by omega) (inI_t c14 c23)
        refine lv_iload_n hE.1 hE.2.1 dX11_value_26 rfl (lv_at hl 3 rfl) ?_
        refine lv_if_lt (tgt := 40) hE.1 hE.2.1 dX11_value_27 (by decide) (fun c27 => ?_) (fun c27 => ?_)
        · refine lv_aload_n hE.1 hE.2.1 dX11_value_40 rfl (lv_at hl 0 rfl) ?_
          refine rg_VI (As := []) (rest := []) hE hml hH mc_X11_215 (c_fail l z G hG iv1 jv) hG.1.1 hG.1.2 (by decide) rfl ⟨Nat.le_of_ble_eq_true rfl, Nat.le_of_ble_eq_true rfl⟩ rfl hl.1 (by simp [Value.category]) dX11_value_41 ⟨Nat.le_of_ble_eq_true rfl, Nat.le_of_ble_eq_true rfl⟩ (fun r41 G41 iv41 jv41 H locs hp41 hH => ?_)
          obtain ⟨rfl, rfl, rfl, rfl⟩ := hp41
          exact rg_iret hE hr rfl hlk hH ⟨rfl, rfl, by rw [show spValue a (nI T) (nI c) ix = no 1 a by rw [spValue, onK_t hTl (by omega), ← htab, onK_t hc (by omega), onK_f (inI_lt c27)]]; exact ⟨rfl, rfl, hS.c0⟩, hF0.tr up0_M⟩ dX11_value_44
        · refine lv_iload_n hE.1 hE.2.1 dX11_value_30 rfl (lv_at hl 3 rfl) ?_
          refine lv_aload_n hE.1 hE.2.1 dX11_value_31 rfl (lv_at hl 0 rfl) ?_
          refine rm_getr hE hH hG fl_X11_20 rfl (by decide) dX11_value_32 ?_
          refine lv_iload_n hE.1 hE.2.1 dX11_value_35 rfl (lv_at hl 1 rfl) ?_
          refine rm_iald hE hH hG (k := 8) (by decide) rfl (N := 6) rfl (n := T) (by omega) (v := nI (tm tab)) (h8) dX11_value_36 ?_
          refine lv_icmp_lt (tgt := 45) hE.1 hE.2.1 dX11_value_37 (by decide) (fun c37 => ?_) (fun c37 => ?_)
          · obtain ⟨i, hi, rfl⟩ := inI_of (by omega) (inI_t c27 (lt_nle c37))
            refine lv_aload_n hE.1 hE.2.1 dX11_value_45 rfl (lv_at hl 0 rfl) ?_
            refine lv_iload_n hE.1 hE.2.1 dX11_value_46 rfl (lv_at hl 1 rfl) ?_
            refine lv_iload_n hE.1 hE.2.1 dX11_value_47 rfl (lv_at hl 2 rfl) ?_
            refine lv_iload_n hE.1 hE.2.1 dX11_value_48 rfl (lv_at hl 3 rfl) ?_
            refine rg_VI (As := [.int (nI T), .int (nI c), .int (nI i)]) (rest := []) hE hml hH mc_X11_240 (c_valueOf l z G hG iv1 jv T hT tab hk hB c i (by omega) (by omega)) hG.1.1 hG.1.2 (by decide) rfl ⟨Nat.le_of_ble_eq_true rfl, Nat.le_of_ble_eq_true rfl⟩ rfl hl.1 (by simp [Value.category]) dX11_value_49 ⟨Nat.le_of_ble_eq_true rfl, Nat.le_of_ble_eq_true rfl⟩ (fun r49 G49 iv49 jv49 H locs hp49 hH => ?_)
            obtain ⟨rfl, rfl, rfl, rfl⟩ := hp49
            exact rg_iret hE hr rfl hlk hH ⟨rfl, rfl, by rw [show spValue a (nI T) (nI c) (nI i) = ok (nI (vOf (tf tab) (tm tab) c i)) a by rw [spValue, onK_t hTl (by omega), ← htab, onK_t hc (by omega), onK_t hi (by omega)]]; exact ⟨h00, rfl, hS⟩, hF0⟩ dX11_value_52
          · refine lv_aload_n hE.1 hE.2.1 dX11_value_40 rfl (lv_at hl 0 rfl) ?_
            refine rg_VI (As := []) (rest := []) hE hml hH mc_X11_215 (c_fail l z G hG iv1 jv) hG.1.1 hG.1.2 (by decide) rfl ⟨Nat.le_of_ble_eq_true rfl, Nat.le_of_ble_eq_true rfl⟩ rfl hl.1 (by simp [Value.category]) dX11_value_41 ⟨Nat.le_of_ble_eq_true rfl, Nat.le_of_ble_eq_true rfl⟩ (fun r41 G41 iv41 jv41 H locs hp41 hH => ?_)
            obtain ⟨rfl, rfl, rfl, rfl⟩ := hp41
            exact rg_iret hE hr rfl hlk hH ⟨rfl, rfl, by rw [show spValue a (nI T) (nI c) ix = no 1 a by rw [spValue, onK_t hTl (by omega), ← htab, onK_t hc (by omega), onK_f (inI_ge (nlt_le c37))]]; exact ⟨rfl, rfl, hS.c0⟩, hF0.tr up0_M⟩ dX11_value_44
set_option maxRecDepth 100000 in
set_option maxHeartbeats 4000000 in
theorem c_hole (l : Launch) (z : ZK) (G : GW) (hG : isM G) (iv : IV) (jv : JV) (a : AS) (hS : MSt iv a) (t ix : Int32) : cI l z yX11_hole cX11_hole 5 (some .int) 3 75 0 0 [.ref (G.ad 0), .int (t), .int (ix)] G iv jv (fun r G' iv' jv' => G = G' ∧ jv = jv' ∧ (iv' 0 0 = nI (spHole a t ix).1 ∧ r = (spHole a t ix).2.1 ∧ MSt iv' (spHole a t ix).2.2) ∧ Fr iv iv' pM) := by
  intro sz
  refine rg_entry rfl (Nat.le_of_ble_eq_true rfl) ?_
  intro pq eq sq mq bq methq cq ls hE hr hlk hml hnm hl hsz hH
  have hl : lv_has ls 5 [(0, .ref (G.ad 0)), (1, .int (t)), (2, .int (ix))] := hl
  refine lv_aload_n hE.1 hE.2.1 dX11_hole_0 rfl (lv_at hl 0 rfl) ?_
  refine lv_iconst (v := nI 0) hE.1 hE.2.1 dX11_hole_1 (by decide) ?_
  refine rm_puti hE hH hG fl_X11_96 rfl fn_X11_0 (v := nI 0) dX11_hole_2 (fun H locs hH => ?_)
  have hF0 : Fr iv (up2 iv 0 0 (nI 0)) pM := up0_M
  have hS : MSt (up2 iv 0 0 (nI 0)) a := hS.c0
  have h00 : (up2 iv 0 0 (nI 0)) 0 0 = nI 0 := rfl
  generalize up2 iv 0 0 (nI 0) = iv1 at hH hS hF0 h00
  have hS6 := hS.2.2.1.2.1
  have hS12 := hS.2.2.2.1.2.1
  have hS3 := hS.1.2.1
  have hSo := hS.2.2.2.2.2.1
  refine lv_aload_n hE.1 hE.2.1 dX11_hole_5 rfl (lv_at hl 0 rfl) ?_
  refine lv_iload_n hE.1 hE.2.1 dX11_hole_6 rfl (lv_at hl 1 rfl) ?_
  refine rg_VI (As := [.int (t)]) (rest := []) hE hml hH mc_X11_231 (c_isTable l z G hG iv1 jv t (aT a).length hS.2.2.1.1) hG.1.1 hG.1.2 (by decide) rfl ⟨Nat.le_of_ble_eq_true rfl, Nat.le_of_ble_eq_true rfl⟩ rfl hl.1 (by simp [Value.category]) dX11_hole_7 ⟨Nat.le_of_ble_eq_true rfl, Nat.le_of_ble_eq_true rfl⟩ (fun r7 G7 iv7 jv7 H locs hp7 hH => ?_)
  obtain ⟨rfl, rfl, rfl, rfl⟩ := hp7
  refine rn_ifb_eq (tgt := 26) hE dX11_hole_10 (by decide) (fun c10 => ?_) (fun c10 => ?_)
  · refine lv_aload_n hE.1 hE.2.1 dX11_hole_26 rfl (lv_at hl 0 rfl) ?_
    refine rg_VI (As := []) (rest := []) hE hml hH mc_X11_215 (c_fail l z G hG iv1 jv) hG.1.1 hG.1.2 (by decide) rfl ⟨Nat.le_of_ble_eq_true rfl, Nat.le_of_ble_eq_true rfl⟩ rfl hl.1 (by simp [Value.category]) dX11_hole_27 ⟨Nat.le_of_ble_eq_true rfl, Nat.le_of_ble_eq_true rfl⟩ (fun r27 G27 iv27 jv27 H locs hp27 hH => ?_)
    obtain ⟨rfl, rfl, rfl, rfl⟩ := hp27
    exact rg_iret hE hr rfl hlk hH ⟨rfl, rfl, by rw [show spHole a t ix = no 1 a by rw [spHole, onK_f c10]]; exact ⟨rfl, rfl, hS.c0⟩, hF0.tr up0_M⟩ dX11_hole_30
  · obtain ⟨T, hTl, rfl⟩ := inI_of (by omega) c10
    have hT : T < 6 := by omega
    obtain ⟨tab, htab⟩ : ∃ x, x = aTb a T := ⟨_, rfl⟩
    have hFT : FT iv1 T tab := by rw [htab]; exact (hS.2.2.1.2.2.1 T hTl).1
    have hTW : tabW tab := by rw [htab]; exact (hS.2.2.1.2.2.1 T hTl).2.1
    have hLD : LD iv1 T tab := by rw [htab]; exact (hS.2.2.1.2.2.1 T hTl).2.2
    have hB := hFT.1
    have hk := hFT.2.1
    have hA := hFT.2.2
    have h8 := hB.f.1
    have h10 := hB.f.2.1
    have h9 := hB.f.2.2.1
    have h13 := hB.f.2.2.2.1
    have h14 := hB.f.2.2.2.2.1
    have hm5 := hk.2.1
    have hm1 := hk.1
    have hC := hk.2.2.2.1
    have hR40 := hk.2.2.2.2.2.2.1
    have hho := nHo_le hk
    refine lv_iload_n hE.1 hE.2.1 dX11_hole_13 rfl (lv_at hl 2 rfl) ?_
    refine lv_if_lt (tgt := 26) hE.1 hE.2.1 dX11_hole_14 (by decide) (fun c14 => ?_) (fun c14 => ?_)
    · refine lv_aload_n hE.1 hE.2.1 dX11_hole_26 rfl (lv_at hl 0 rfl) ?_
      refine rg_VI (As := []) (rest := []) hE hml hH mc_X11_215 (c_fail l z G hG iv1 jv) hG.1.1 hG.1.2 (by decide) rfl ⟨Nat.le_of_ble_eq_true rfl, Nat.le_of_ble_eq_true rfl⟩ rfl hl.1 (by simp [Value.category]) dX11_hole_27 ⟨Nat.le_of_ble_eq_true rfl, Nat.le_of_ble_eq_true rfl⟩ (fun r27 G27 iv27 jv27 H locs hp27 hH => ?_)
      obtain ⟨rfl, rfl, rfl, rfl⟩ := hp27
      exact rg_iret hE hr rfl hlk hH ⟨rfl, rfl, by rw [show spHole a (nI T) ix = no 1 a by rw [spHole, onK_t hTl (by omega), ← htab, onK_f (inI_lt c14)]]; exact ⟨rfl, rfl, hS.c0⟩, hF0.tr up0_M⟩ dX11_hole_30
    · refine lv_iload_n hE.1 hE.2.1 dX11_hole_17 rfl (lv_at hl 2 rfl) ?_
      refine lv_aload_n hE.1 hE.2.1 dX11_hole_18 rfl (lv_at hl 0 rfl) ?_
      refine lv_iload_n hE.1 hE.2.1 dX11_hole_19 rfl (lv_at hl 1 rfl) ?_
      refine rg_VI (As := [.int (nI T)]) (rest := [.int (ix)]) hE hml hH mc_X11_275 (c_holes l z G hG iv1 jv T hT tab hFT) hG.1.1 hG.1.2 (by decide) rfl ⟨Nat.le_of_ble_eq_true rfl, Nat.le_of_ble_eq_true rfl⟩ rfl hl.1 (by simp [Value.category]) dX11_hole_20 ⟨Nat.le_of_ble_eq_true rfl, Nat.le_of_ble_eq_true rfl⟩ (fun r20 G20 iv20 jv20 H locs hp20 hH => ?_)
      obtain ⟨rfl, rfl, rfl, rfl⟩ := hp20
      refine lv_icmp_lt (tgt := 31) hE.1 hE.2.1 dX11_hole_23 (by decide) (fun c23 => ?_) (fun c23 => ?_)
      · obtain ⟨i, hi, rfl⟩ := inI_of (n := nHo tab) (by omega) (inI_t c14 (lt_nle c23))
        have hi2 : i < cntN (fun c => (frow tab c).isNone) (tC tab) := hi
        refine lv_iconst (v := nI 0) hE.1 hE.2.1 dX11_hole_31 (by decide) ?_
        refine lv_istore_n (lv' := [(3, .int (nI 0)), (0, .ref (G.ad 0)), (1, .int (nI T)), (2, .int (nI i))]) hE.1 hE.2.1 dX11_hole_32 rfl hl (by decide) rfl (fun ls hl => ?_)
        refine lv_iconst (v := nI 0) hE.1 hE.2.1 dX11_hole_33 (by decide) ?_
        refine lv_istore (lv' := [(4, .int (nI 0)), (3, .int (nI 0)), (0, .ref (G.ad 0)), (1, .int (nI T)), (2, .int (nI i))]) hE.1 hE.2.1 dX11_hole_34 hl (by decide) rfl (fun ls hl => ?_)
        refine rg_loop (σ := Nat) (nL := 5) (fun (c : Nat) => tC tab - c) (fun (c : Nat) => [(0, .ref (G.ad 0)), (1, .int (nI T)), (2, .int (nI i)), (3, .int (nI (cntN (fun c => (frow tab c).isNone) c))), (4, .int (nI c))]) (fun (c : Nat) => G) (fun (c : Nat) => iv1) (fun (c : Nat) => jv) (fun (c : Nat) => c ≤ tC tab ∧ cntN (fun c => (frow tab c).isNone) c ≤ i) ?_ (0) ⟨Nat.zero_le _, Nat.zero_le _⟩ (lv_sub hl [2, 3, 4, 1, 0] rfl) hH
        rintro c H locs ls ⟨hcC, hci⟩ hl hH ih36
        try dsimp only at hl hH ih36
        try dsimp only at hcC hci
        have hcl : c < tC tab := by
          rcases Nat.lt_or_ge c (tC tab) with h | h
          · exact h
          · rw [show c = tC tab by omega] at hci; omega
        refine lv_aload_n hE.1 hE.2.1 dX11_hole_36 rfl (lv_at hl 0 rfl) ?_
        refine rm_getr hE hH hG fl_X11_41 rfl (by decide) dX11_hole_37 ?_
        refine lv_sipush (v := nI 400) hE.1 hE.2.1 dX11_hole_40 (by decide) ?_
        refine lv_iload_n hE.1 hE.2.1 dX11_hole_43 rfl (lv_at hl 1 rfl) ?_
        refine rn_imul hE dX11_hole_44 ?_
        refine lv_iload hE.1 hE.2.1 dX11_hole_45 (lv_at hl 4 rfl) ?_
        refine rn_iadd hE dX11_hole_47 ?_
        refine rm_iald hE hH hG (k := 15) (by decide) rfl (N := 2400) rfl (n := 400 * T + c) (by omega) (v := oI (frow tab c)) (hA c hcl) dX11_hole_48 ?_
        refine lv_iconst (v := -1) hE.1 hE.2.1 dX11_hole_49 (by decide) ?_
        refine lv_icmp_ne (tgt := 58) hE.1 hE.2.1 dX11_hole_50 (by decide) (fun c50 => ?_) (fun c50 => ?_)
        · obtain ⟨q, hq⟩ := oI_som c50
          refine lv_iload_n hE.1 hE.2.1 dX11_hole_58 rfl (lv_at hl 3 rfl) ?_
          refine lv_aload_n hE.1 hE.2.1 dX11_hole_59 rfl (lv_at hl 0 rfl) ?_
          refine rm_getr hE hH hG fl_X11_41 rfl (by decide) dX11_hole_60 ?_
          refine lv_sipush (v := nI 400) hE.1 hE.2.1 dX11_hole_63 (by decide) ?_
          refine lv_iload_n hE.1 hE.2.1 dX11_hole_66 rfl (lv_at hl 1 rfl) ?_
          refine rn_imul hE dX11_hole_67 ?_
          refine lv_iload hE.1 hE.2.1 dX11_hole_68 (lv_at hl 4 rfl) ?_
          refine rn_iadd hE dX11_hole_70 ?_
          refine rm_iald hE hH hG (k := 15) (by decide) rfl (N := 2400) rfl (n := 400 * T + c) (by omega) (v := oI (frow tab c)) (hA c hcl) dX11_hole_71 ?_
          refine lv_iconst (v := -1) hE.1 hE.2.1 dX11_hole_72 (by decide) ?_
          refine rb_raw_ne (t1 := 80) (t2 := 81) hE dX11_hole_73 (by decide) dX11_hole_76 dX11_hole_77 (by decide) dX11_hole_80 rfl ?_
          refine rn_as (v' := nI (if (frow tab c).isNone then 1 else 0)) (bI_none (fun k hk2 => by have := frow_lt hk2; omega)) ?_
          refine rn_iadd hE dX11_hole_81 ?_
          refine lv_istore_n (lv' := [(3, .int (nI (cntN (fun c => (frow tab c).isNone) c + (if (frow tab c).isNone then 1 else 0)))), (0, .ref (G.ad 0)), (1, .int (nI T)), (2, .int (nI i)), (4, .int (nI c))]) hE.1 hE.2.1 dX11_hole_82 rfl hl (by decide) rfl (fun ls hl => ?_)
          refine lv_iinc (v := nI (c + 1)) (lv' := [(4, .int (nI (c + 1))), (3, .int (nI (cntN (fun c => (frow tab c).isNone) c + (if (frow tab c).isNone then 1 else 0)))), (0, .ref (G.ad 0)), (1, .int (nI T)), (2, .int (nI i))]) hE.1 hE.2.1 dX11_hole_83 hl (k := 4) rfl (nI_1 _) (by decide) rfl (fun ls hl => ?_)
          refine lv_goto (tgt := 36) hE.1 hE.2.1 dX11_hole_86 (by decide) ?_
          exact ih36 (c + 1) _ _ _ (by omega) ⟨by omega, by
            show cntN (fun c => (frow tab c).isNone) c + (if (frow tab c).isNone then 1 else 0) ≤ i
            rw [if_neg]; omega; rw [hq]; simp⟩ (lv_sub hl [2, 3, 4, 1, 0] rfl) hH
        · rw [oI_m1 (fun k hk2 => by have := frow_lt hk2; omega)] at c50
          refine lv_iload_n hE.1 hE.2.1 dX11_hole_53 rfl (lv_at hl 3 rfl) ?_
          refine lv_iload_n hE.1 hE.2.1 dX11_hole_54 rfl (lv_at hl 2 rfl) ?_
          refine rn_icmp_ge (tgt := 89) hE dX11_hole_55 (by decide) (by omega) (by omega) (fun c55 => ?_) (fun c55 => ?_)
          · refine lv_iload hE.1 hE.2.1 dX11_hole_89 (lv_at hl 4 rfl) ?_
            exact rg_iret hE hr rfl hlk hH ⟨rfl, rfl, by rw [show spHole a (nI T) (nI i) = ok (nI c) a by rw [spHole, onK_t hTl (by omega), ← htab, onK_t (n := nHo tab) hi (by omega), nthH_eq hcl c50 (by omega)]; rfl]; exact ⟨h00, rfl, hS⟩, hF0⟩ dX11_hole_91
          · refine lv_iload_n hE.1 hE.2.1 dX11_hole_58 rfl (lv_at hl 3 rfl) ?_
            refine lv_aload_n hE.1 hE.2.1 dX11_hole_59 rfl (lv_at hl 0 rfl) ?_
            refine rm_getr hE hH hG fl_X11_41 rfl (by decide) dX11_hole_60 ?_
            refine lv_sipush (v := nI 400) hE.1 hE.2.1 dX11_hole_63 (by decide) ?_
            refine lv_iload_n hE.1 hE.2.1 dX11_hole_66 rfl (lv_at hl 1 rfl) ?_
            refine rn_imul hE dX11_hole_67 ?_
            refine lv_iload hE.1 hE.2.1 dX11_hole_68 (lv_at hl 4 rfl) ?_
            refine rn_iadd hE dX11_hole_70 ?_
            refine rm_iald hE hH hG (k := 15) (by decide) rfl (N := 2400) rfl (n := 400 * T + c) (by omega) (v := oI (frow tab c)) (hA c hcl) dX11_hole_71 ?_
            refine lv_iconst (v := -1) hE.1 hE.2.1 dX11_hole_72 (by decide) ?_
            refine rb_raw_ne (t1 := 80) (t2 := 81) hE dX11_hole_73 (by decide) dX11_hole_76 dX11_hole_77 (by decide) dX11_hole_80 rfl ?_
            refine rn_as (v' := nI (if (frow tab c).isNone then 1 else 0)) (bI_none (fun k hk2 => by have := frow_lt hk2; omega)) ?_
            refine rn_iadd hE dX11_hole_81 ?_
            refine lv_istore_n (lv' := [(3, .int (nI (cntN (fun c => (frow tab c).isNone) c + (if (frow tab c).isNone then 1 else 0)))), (0, .ref (G.ad 0)), (1, .int (nI T)), (2, .int (nI i)), (4, .int (nI c))]) hE.1 hE.2.1 dX11_hole_82 rfl hl (by decide) rfl (fun ls hl => ?_)
            refine lv_iinc (v := nI (c + 1)) (lv' := [(4, .int (nI (c + 1))), (3, .int (nI (cntN (fun c => (frow tab c).isNone) c + (if (frow tab c).isNone then 1 else 0)))), (0, .ref (G.ad 0)), (1, .int (nI T)), (2, .int (nI i))]) hE.1 hE.2.1 dX11_hole_83 hl (k := 4) rfl (nI_1 _) (by decide) rfl (fun ls hl => ?_)
            refine lv_goto (tgt := 36) hE.1 hE.2.1 dX11_hole_86 (by decide) ?_
            exact ih36 (c + 1) _ _ _ (by omega) ⟨by omega, by
              show cntN (fun c => (frow tab c).isNone) c + (if (frow tab c).isNone then 1 else 0) ≤ i
              split <;> omega⟩ (lv_sub hl [2, 3, 4, 1, 0] rfl) hH
      · refine lv_aload_n hE.1 hE.2.1 dX11_hole_26 rfl (lv_at hl 0 rfl) ?_
        refine rg_VI (As := []) (rest := []) hE hml hH mc_X11_215 (c_fail l z G hG iv1 jv) hG.1.1 hG.1.2 (by decide) rfl ⟨Nat.le_of_ble_eq_true rfl, Nat.le_of_ble_eq_true rfl⟩ rfl hl.1 (by simp [Value.category]) dX11_hole_27 ⟨Nat.le_of_ble_eq_true rfl, Nat.le_of_ble_eq_true rfl⟩ (fun r27 G27 iv27 jv27 H locs hp27 hH => ?_)
        obtain ⟨rfl, rfl, rfl, rfl⟩ := hp27
        exact rg_iret hE hr rfl hlk hH ⟨rfl, rfl, by rw [show spHole a (nI T) ix = no 1 a by rw [spHole, onK_t hTl (by omega), ← htab, onK_f (inI_ge (n := nHo tab) (nlt_le c23))]]; exact ⟨rfl, rfl, hS.c0⟩, hF0.tr up0_M⟩ dX11_hole_30
set_option maxRecDepth 100000 in
set_option maxHeartbeats 4000000 in
theorem c_quarrel (l : Launch) (z : ZK) (G : GW) (hG : isM G) (iv : IV) (jv : JV) (a : AS) (hS : MSt iv a) (t ix wx : Int32) : cI l z yX11_quarrel cX11_quarrel 8 (some .int) 3 75 0 0 [.ref (G.ad 0), .int (t), .int (ix), .int (wx)] G iv jv (fun r G' iv' jv' => G = G' ∧ jv = jv' ∧ (iv' 0 0 = nI (spQuarrel a t ix wx).1 ∧ r = (spQuarrel a t ix wx).2.1 ∧ MSt iv' (spQuarrel a t ix wx).2.2) ∧ Fr iv iv' pM) := by
  intro sz
  refine rg_entry rfl (Nat.le_of_ble_eq_true rfl) ?_
  intro pq eq sq mq bq methq cq ls hE hr hlk hml hnm hl hsz hH
  have hl : lv_has ls 8 [(0, .ref (G.ad 0)), (1, .int (t)), (2, .int (ix)), (3, .int (wx))] := hl
  refine lv_aload_n hE.1 hE.2.1 dX11_quarrel_0 rfl (lv_at hl 0 rfl) ?_
  refine lv_iconst (v := nI 0) hE.1 hE.2.1 dX11_quarrel_1 (by decide) ?_
  refine rm_puti hE hH hG fl_X11_96 rfl fn_X11_0 (v := nI 0) dX11_quarrel_2 (fun H locs hH => ?_)
  have hF0 : Fr iv (up2 iv 0 0 (nI 0)) pM := up0_M
  have hS : MSt (up2 iv 0 0 (nI 0)) a := hS.c0
  have h00 : (up2 iv 0 0 (nI 0)) 0 0 = nI 0 := rfl
  generalize up2 iv 0 0 (nI 0) = iv1 at hH hS hF0 h00
  have hS6 := hS.2.2.1.2.1
  have hS12 := hS.2.2.2.1.2.1
  have hS3 := hS.1.2.1
  have hSo := hS.2.2.2.2.2.1
  refine lv_aload_n hE.1 hE.2.1 dX11_quarrel_5 rfl (lv_at hl 0 rfl) ?_
  refine lv_iload_n hE.1 hE.2.1 dX11_quarrel_6 rfl (lv_at hl 1 rfl) ?_
  refine rg_VI (As := [.int (t)]) (rest := []) hE hml hH mc_X11_231 (c_isTable l z G hG iv1 jv t (aT a).length hS.2.2.1.1) hG.1.1 hG.1.2 (by decide) rfl ⟨Nat.le_of_ble_eq_true rfl, Nat.le_of_ble_eq_true rfl⟩ rfl hl.1 (by simp [Value.category]) dX11_quarrel_7 ⟨Nat.le_of_ble_eq_true rfl, Nat.le_of_ble_eq_true rfl⟩ (fun r7 G7 iv7 jv7 H locs hp7 hH => ?_)
  obtain ⟨rfl, rfl, rfl, rfl⟩ := hp7
  refine rn_ifb_eq (tgt := 26) hE dX11_quarrel_10 (by decide) (fun c10 => ?_) (fun c10 => ?_)
  · refine lv_aload_n hE.1 hE.2.1 dX11_quarrel_26 rfl (lv_at hl 0 rfl) ?_
    refine rg_VI (As := []) (rest := []) hE hml hH mc_X11_215 (c_fail l z G hG iv1 jv) hG.1.1 hG.1.2 (by decide) rfl ⟨Nat.le_of_ble_eq_true rfl, Nat.le_of_ble_eq_true rfl⟩ rfl hl.1 (by simp [Value.category]) dX11_quarrel_27 ⟨Nat.le_of_ble_eq_true rfl, Nat.le_of_ble_eq_true rfl⟩ (fun r27 G27 iv27 jv27 H locs hp27 hH => ?_)
    obtain ⟨rfl, rfl, rfl, rfl⟩ := hp27
    exact rg_iret hE hr rfl hlk hH ⟨rfl, rfl, by rw [show spQuarrel a t ix wx = no 1 a by rw [spQuarrel, onK_f c10]]; exact ⟨rfl, rfl, hS.c0⟩, hF0.tr up0_M⟩ dX11_quarrel_30
  · obtain ⟨T, hTl, rfl⟩ := inI_of (by omega) c10
    have hT : T < 6 := by omega
    obtain ⟨tab, htab⟩ : ∃ x, x = aTb a T := ⟨_, rfl⟩
    have hFT : FT iv1 T tab := by rw [htab]; exact (hS.2.2.1.2.2.1 T hTl).1
    have hTW : tabW tab := by rw [htab]; exact (hS.2.2.1.2.2.1 T hTl).2.1
    have hLD : LD iv1 T tab := by rw [htab]; exact (hS.2.2.1.2.2.1 T hTl).2.2
    have hB := hFT.1
    have hk := hFT.2.1
    have hA := hFT.2.2
    have h8 := hB.f.1
    have h10 := hB.f.2.1
    have h9 := hB.f.2.2.1
    have h13 := hB.f.2.2.2.1
    have h14 := hB.f.2.2.2.2.1
    have hm5 := hk.2.1
    have hm1 := hk.1
    have hC := hk.2.2.2.1
    have hR40 := hk.2.2.2.2.2.2.1
    have hql := qL_len hk
    refine lv_iload_n hE.1 hE.2.1 dX11_quarrel_13 rfl (lv_at hl 2 rfl) ?_
    refine lv_if_lt (tgt := 26) hE.1 hE.2.1 dX11_quarrel_14 (by decide) (fun c14 => ?_) (fun c14 => ?_)
    · refine lv_aload_n hE.1 hE.2.1 dX11_quarrel_26 rfl (lv_at hl 0 rfl) ?_
      refine rg_VI (As := []) (rest := []) hE hml hH mc_X11_215 (c_fail l z G hG iv1 jv) hG.1.1 hG.1.2 (by decide) rfl ⟨Nat.le_of_ble_eq_true rfl, Nat.le_of_ble_eq_true rfl⟩ rfl hl.1 (by simp [Value.category]) dX11_quarrel_27 ⟨Nat.le_of_ble_eq_true rfl, Nat.le_of_ble_eq_true rfl⟩ (fun r27 G27 iv27 jv27 H locs hp27 hH => ?_)
      obtain ⟨rfl, rfl, rfl, rfl⟩ := hp27
      exact rg_iret hE hr rfl hlk hH ⟨rfl, rfl, by rw [show spQuarrel a (nI T) ix wx = no 1 a by rw [spQuarrel, onK_t hTl (by omega), ← htab, onK_f (inI_lt c14)]]; exact ⟨rfl, rfl, hS.c0⟩, hF0.tr up0_M⟩ dX11_quarrel_30
    · obtain ⟨i, hi, rfl⟩ := nI_of c14
      refine lv_iload_n hE.1 hE.2.1 dX11_quarrel_17 rfl (lv_at hl 3 rfl) ?_
      refine lv_if_lt (tgt := 26) hE.1 hE.2.1 dX11_quarrel_18 (by decide) (fun c18 => ?_) (fun c18 => ?_)
      · refine lv_aload_n hE.1 hE.2.1 dX11_quarrel_26 rfl (lv_at hl 0 rfl) ?_
        refine rg_VI (As := []) (rest := []) hE hml hH mc_X11_215 (c_fail l z G hG iv1 jv) hG.1.1 hG.1.2 (by decide) rfl ⟨Nat.le_of_ble_eq_true rfl, Nat.le_of_ble_eq_true rfl⟩ rfl hl.1 (by simp [Value.category]) dX11_quarrel_27 ⟨Nat.le_of_ble_eq_true rfl, Nat.le_of_ble_eq_true rfl⟩ (fun r27 G27 iv27 jv27 H locs hp27 hH => ?_)
        obtain ⟨rfl, rfl, rfl, rfl⟩ := hp27
        exact rg_iret hE hr rfl hlk hH ⟨rfl, rfl, by rw [show spQuarrel a (nI T) (nI i) wx = no 1 a by rw [spQuarrel, onK_t hTl (by omega), ← htab, onK_no (fun j => onK_f (inI_lt c18))]]; exact ⟨rfl, rfl, hS.c0⟩, hF0.tr up0_M⟩ dX11_quarrel_30
      · refine lv_iload_n hE.1 hE.2.1 dX11_quarrel_21 rfl (lv_at hl 3 rfl) ?_
        refine lv_iconst (v := nI 2) hE.1 hE.2.1 dX11_quarrel_22 (by decide) ?_
        refine lv_icmp_le (tgt := 31) hE.1 hE.2.1 dX11_quarrel_23 (by decide) (fun c23 => ?_) (fun c23 => ?_)
        · obtain ⟨w, hw, rfl⟩ := inI_of (by decide) (inI_le (by decide) c18 c23)
          refine lv_iconst (v := nI 0) hE.1 hE.2.1 dX11_quarrel_31 (by decide) ?_
          refine lv_istore (lv' := [(4, .int (nI 0)), (0, .ref (G.ad 0)), (1, .int (nI T)), (2, .int (nI i)), (3, .int (nI w))]) hE.1 hE.2.1 dX11_quarrel_32 hl (by decide) rfl (fun ls hl => ?_)
          refine lv_iconst (v := nI 0) hE.1 hE.2.1 dX11_quarrel_34 (by decide) ?_
          refine lv_istore (lv' := [(5, .int (nI 0)), (4, .int (nI 0)), (0, .ref (G.ad 0)), (1, .int (nI T)), (2, .int (nI i)), (3, .int (nI w))]) hE.1 hE.2.1 dX11_quarrel_35 hl (by decide) rfl (fun ls hl => ?_)
          refine rg_loop (σ := Nat) (nL := 8) (fun (x : Nat) => tR tab - x) (fun (x : Nat) => [(0, .ref (G.ad 0)), (1, .int (nI T)), (2, .int (nI i)), (3, .int (nI w)), (4, .int (nI ((qUp tab x).length))), (5, .int (nI x))]) (fun (x : Nat) => G) (fun (x : Nat) => iv1) (fun (x : Nat) => jv) (fun (x : Nat) => x ≤ tR tab ∧ (qUp tab x).length ≤ i) ?_ (0) ⟨Nat.zero_le _, Nat.zero_le _⟩ (lv_sub hl [2, 3, 4, 5, 1, 0] rfl) hH
          rintro x H locs ls ⟨hxR, hxi⟩ hl hH ih37
          try dsimp only at hl hH ih37
          refine lv_iload hE.1 hE.2.1 dX11_quarrel_37 (lv_at hl 5 rfl) ?_
          refine lv_aload_n hE.1 hE.2.1 dX11_quarrel_39 rfl (lv_at hl 0 rfl) ?_
          refine rm_getr hE hH hG fl_X11_23 rfl (by decide) dX11_quarrel_40 ?_
          refine lv_iload_n hE.1 hE.2.1 dX11_quarrel_43 rfl (lv_at hl 1 rfl) ?_
          refine rm_iald hE hH hG (k := 9) (by decide) rfl (N := 6) rfl (n := T) (by omega) (v := nI (tR tab)) (h9) dX11_quarrel_44 ?_
          refine rn_icmp_ge (tgt := 128) hE dX11_quarrel_45 (by decide) (by omega) (by omega) (fun c45 => ?_) (fun c45 => ?_)
          · have hxe : x = tR tab := by omega
            subst hxe
            refine lv_aload_n hE.1 hE.2.1 dX11_quarrel_128 rfl (lv_at hl 0 rfl) ?_
            refine rg_VI (As := []) (rest := []) hE hml hH mc_X11_215 (c_fail l z G hG iv1 jv) hG.1.1 hG.1.2 (by decide) rfl ⟨Nat.le_of_ble_eq_true rfl, Nat.le_of_ble_eq_true rfl⟩ rfl hl.1 (by simp [Value.category]) dX11_quarrel_129 ⟨Nat.le_of_ble_eq_true rfl, Nat.le_of_ble_eq_true rfl⟩ (fun r129 G129 iv129 jv129 H locs hp129 hH => ?_)
            obtain ⟨rfl, rfl, rfl, rfl⟩ := hp129
            exact rg_iret hE hr rfl hlk hH ⟨rfl, rfl, by rw [show spQuarrel a (nI T) (nI i) (nI w) = no 1 a by rw [spQuarrel, onK_t hTl (by omega), ← htab, onK_f (inI_ge (nI_le (show (qL tab).length ≤ i from hxi) (by omega)))]]; exact ⟨rfl, rfl, hS.c0⟩, hF0.tr up0_M⟩ dX11_quarrel_132
          · refine lv_iload hE.1 hE.2.1 dX11_quarrel_48 (lv_at hl 5 rfl) ?_
            refine lv_iconst (v := nI 1) hE.1 hE.2.1 dX11_quarrel_50 (by decide) ?_
            refine rn_iadd hE dX11_quarrel_51 ?_
            have hl : lv_has ls 8 [(0, .ref (G.ad 0)), (1, .int (nI T)), (2, .int (nI i)), (3, .int (nI w)), (4, .int (nI ((qUp tab x ++ qRow tab x (x + 1)).length))), (5, .int (nI x))] := by rw [qRow_0 (x + 1) (Nat.le_refl _), List.append_nil]; exact hl
            refine lv_istore (lv' := [(6, .int (nI (x + 1))), (0, .ref (G.ad 0)), (1, .int (nI T)), (2, .int (nI i)), (3, .int (nI w)), (4, .int (nI ((qUp tab x ++ qRow tab x (x + 1)).length))), (5, .int (nI x))]) hE.1 hE.2.1 dX11_quarrel_52 hl (by decide) rfl (fun ls hl => ?_)
            refine rg_loop (σ := Nat) (nL := 8) (fun (y : Nat) => tR tab - y) (fun (y : Nat) => [(0, .ref (G.ad 0)), (1, .int (nI T)), (2, .int (nI i)), (3, .int (nI w)), (4, .int (nI ((qUp tab x ++ qRow tab x y).length))), (5, .int (nI x)), (6, .int (nI y))]) (fun (y : Nat) => G) (fun (y : Nat) => iv1) (fun (y : Nat) => jv) (fun (y : Nat) => x < y ∧ y ≤ tR tab ∧ (qUp tab x ++ qRow tab x y).length ≤ i) ?_ ((x + 1)) ⟨Nat.lt_succ_self x, by omega, by rw [qRow_0 (x + 1) (Nat.le_refl _), List.append_nil]; exact hxi⟩ (lv_sub hl [1, 2, 3, 4, 5, 6, 0] rfl) hH
            rintro y H locs ls ⟨hxy, hyR, hyi⟩ hl hH ih54
            try dsimp only at hl hH ih54
            refine lv_iload hE.1 hE.2.1 dX11_quarrel_54 (lv_at hl 6 rfl) ?_
            refine lv_aload_n hE.1 hE.2.1 dX11_quarrel_56 rfl (lv_at hl 0 rfl) ?_
            refine rm_getr hE hH hG fl_X11_23 rfl (by decide) dX11_quarrel_57 ?_
            refine lv_iload_n hE.1 hE.2.1 dX11_quarrel_60 rfl (lv_at hl 1 rfl) ?_
            refine rm_iald hE hH hG (k := 9) (by decide) rfl (N := 6) rfl (n := T) (by omega) (v := nI (tR tab)) (h9) dX11_quarrel_61 ?_
            refine rn_icmp_ge (tgt := 122) hE dX11_quarrel_62 (by decide) (by omega) (by omega) (fun c62 => ?_) (fun c62 => ?_)
            · have hye : y = tR tab := by omega
              subst hye
              have hyi2 : (qUp tab (x + 1)).length ≤ i := hyi
              have hl : lv_has ls 8 [(0, .ref (G.ad 0)), (1, .int (nI T)), (2, .int (nI i)), (3, .int (nI w)), (4, .int (nI ((qUp tab (x + 1)).length))), (5, .int (nI x)), (6, .int (nI (tR tab)))] := by rw [qUp]; exact hl
              refine lv_iinc (v := nI (x + 1)) (lv' := [(5, .int (nI (x + 1))), (0, .ref (G.ad 0)), (1, .int (nI T)), (2, .int (nI i)), (3, .int (nI w)), (4, .int (nI ((qUp tab (x + 1)).length))), (6, .int (nI (tR tab)))]) hE.1 hE.2.1 dX11_quarrel_122 hl (k := 5) rfl (nI_1 _) (by decide) rfl (fun ls hl => ?_)
              refine lv_goto (tgt := 37) hE.1 hE.2.1 dX11_quarrel_125 (by decide) ?_
              exact ih37 (x + 1) _ _ _ (by omega) ⟨by omega, hyi2⟩ (lv_sub hl [1, 2, 3, 4, 5, 0] rfl) hH
            · obtain ⟨qr, hqr⟩ := qL_pre (tab := tab) (a := x) (b := y + 1) (by omega) (by omega)
              refine lv_aload_n hE.1 hE.2.1 dX11_quarrel_65 rfl (lv_at hl 0 rfl) ?_
              refine lv_iload_n hE.1 hE.2.1 dX11_quarrel_66 rfl (lv_at hl 1 rfl) ?_
              refine lv_iload hE.1 hE.2.1 dX11_quarrel_67 (lv_at hl 5 rfl) ?_
              refine lv_iload hE.1 hE.2.1 dX11_quarrel_69 (lv_at hl 6 rfl) ?_
              refine rg_VI (As := [.int (nI T), .int (nI x), .int (nI y)]) (rest := []) hE hml hH mc_X11_278 (c_quarrelAt l z G hG iv1 jv T hT tab hFT x y (by omega) (by omega)) hG.1.1 hG.1.2 (by decide) rfl ⟨Nat.le_of_ble_eq_true rfl, Nat.le_of_ble_eq_true rfl⟩ rfl hl.1 (by simp [Value.category]) dX11_quarrel_71 ⟨Nat.le_of_ble_eq_true rfl, Nat.le_of_ble_eq_true rfl⟩ (fun r71 G71 iv71 jv71 H locs hp71 hH => ?_)
              obtain ⟨rfl, rfl, rfl, rfl⟩ := hp71
              refine lv_istore (lv' := [(7, .int (oI (qAt tab x y))), (0, .ref (G.ad 0)), (1, .int (nI T)), (2, .int (nI i)), (3, .int (nI w)), (4, .int (nI ((qUp tab x ++ qRow tab x y).length))), (5, .int (nI x)), (6, .int (nI y))]) hE.1 hE.2.1 dX11_quarrel_74 hl (by decide) rfl (fun ls hl => ?_)
              refine lv_iload hE.1 hE.2.1 dX11_quarrel_76 (lv_at hl 0 rfl) ?_
              refine lv_iconst (v := -1) hE.1 hE.2.1 dX11_quarrel_78 (by decide) ?_
              refine lv_icmp_ne (tgt := 85) hE.1 hE.2.1 dX11_quarrel_79 (by decide) (fun c79 => ?_) (fun c79 => ?_)
              · obtain ⟨q, hq⟩ := oI_som c79
                have hqb := qAt_lt hq
                rw [qRow_s (by omega) hq, ← List.append_assoc] at hqr
                have hl : lv_has ls 8 [(7, .int (nI q)), (0, .ref (G.ad 0)), (1, .int (nI T)), (2, .int (nI i)), (3, .int (nI w)), (4, .int (nI ((qUp tab x ++ qRow tab x y).length))), (5, .int (nI x)), (6, .int (nI y))] := by rw [hq] at hl; exact hl
                refine lv_iload hE.1 hE.2.1 dX11_quarrel_85 (lv_at hl 5 rfl) ?_
                refine lv_iload_n hE.1 hE.2.1 dX11_quarrel_87 rfl (lv_at hl 3 rfl) ?_
                refine rn_icmp_ne (tgt := 113) hE dX11_quarrel_88 (by decide) (by have := congrArg List.length hqr; simp only [List.length_append] at this ⊢; omega) (by omega) (fun c88 => ?_) (fun c88 => ?_)
                · refine lv_iinc (v := nI ((qUp tab x ++ qRow tab x y).length + 1)) (lv' := [(4, .int (nI ((qUp tab x ++ qRow tab x y).length + 1))), (7, .int (nI q)), (0, .ref (G.ad 0)), (1, .int (nI T)), (2, .int (nI i)), (3, .int (nI w)), (5, .int (nI x)), (6, .int (nI y))]) hE.1 hE.2.1 dX11_quarrel_113 hl (k := 5) rfl (nI_1 _) (by decide) rfl (fun ls hl => ?_)
                  have hl : lv_has ls 8 [(4, .int (nI ((qUp tab x ++ qRow tab x (y + 1)).length))), (7, .int (nI q)), (0, .ref (G.ad 0)), (1, .int (nI T)), (2, .int (nI i)), (3, .int (nI w)), (5, .int (nI x)), (6, .int (nI y))] := by rw [qRow_s (by omega) hq, ← List.append_assoc, List.length_append]; exact hl
                  refine lv_iinc (v := nI (y + 1)) (lv' := [(6, .int (nI (y + 1))), (4, .int (nI ((qUp tab x ++ qRow tab x (y + 1)).length))), (7, .int (nI q)), (0, .ref (G.ad 0)), (1, .int (nI T)), (2, .int (nI i)), (3, .int (nI w)), (5, .int (nI x))]) hE.1 hE.2.1 dX11_quarrel_116 hl (k := 7) rfl (nI_1 _) (by decide) rfl (fun ls hl => ?_)
                  refine lv_goto (tgt := 54) hE.1 hE.2.1 dX11_quarrel_119 (by decide) ?_
                  exact ih54 (y + 1) _ _ _ (by omega) ⟨by omega, by omega, by rw [qRow_s (by omega) hq, ← List.append_assoc, List.length_append]; show (qUp tab x ++ qRow tab x y).length + 1 ≤ i; omega⟩ (lv_sub hl [3, 4, 5, 6, 1, 7, 0] rfl) hH
                · have hil : i < (qL tab).length := by rw [hqr]; simp only [List.length_append, List.length_singleton] at c88 ⊢; omega
                  have hget : (qL tab).getD i (0, 0, 0) = (x, y, q) := by
                    rw [hqr, ← c88, List.getD_eq_getElem?_getD, List.append_assoc, List.getElem?_append_right (Nat.le_refl _)]; simp
                  refine lv_iload_n hE.1 hE.2.1 dX11_quarrel_91 rfl (lv_at hl 4 rfl) ?_
                  refine rn_if_ne (tgt := 100) hE dX11_quarrel_92 (by decide) (by omega) (fun c92 => ?_) (fun c92 => ?_)
                  · refine lv_iload_n hE.1 hE.2.1 dX11_quarrel_100 rfl (lv_at hl 4 rfl) ?_
                    refine lv_iconst (v := nI 1) hE.1 hE.2.1 dX11_quarrel_101 (by decide) ?_
                    refine rn_icmp_ne (tgt := 110) hE dX11_quarrel_102 (by decide) (by omega) (by omega) (fun c102 => ?_) (fun c102 => ?_)
                    · refine lv_iload hE.1 hE.2.1 dX11_quarrel_110 (lv_at hl 0 rfl) ?_
                      exact rg_iret hE hr rfl hlk hH ⟨rfl, rfl, by rw [show spQuarrel a (nI T) (nI i) (nI w) = ok (nI q) a by rw [spQuarrel, onK_t hTl (by omega), ← htab, onK_t hil (by omega), onK_t hw (by decide), if_neg c92, if_neg c102, hget]]; exact ⟨h00, rfl, hS⟩, hF0⟩ dX11_quarrel_112
                    · refine lv_iload hE.1 hE.2.1 dX11_quarrel_105 (lv_at hl 7 rfl) ?_
                      refine lv_goto (tgt := 112) hE.1 hE.2.1 dX11_quarrel_107 (by decide) ?_
                      exact rg_iret hE hr rfl hlk hH ⟨rfl, rfl, by rw [show spQuarrel a (nI T) (nI i) (nI w) = ok (nI y) a by rw [spQuarrel, onK_t hTl (by omega), ← htab, onK_t hil (by omega), onK_t hw (by decide), if_neg c92, if_pos c102, hget]]; exact ⟨h00, rfl, hS⟩, hF0⟩ dX11_quarrel_112
                  · refine lv_iload hE.1 hE.2.1 dX11_quarrel_95 (lv_at hl 6 rfl) ?_
                    refine lv_goto (tgt := 112) hE.1 hE.2.1 dX11_quarrel_97 (by decide) ?_
                    exact rg_iret hE hr rfl hlk hH ⟨rfl, rfl, by rw [show spQuarrel a (nI T) (nI i) (nI w) = ok (nI x) a by rw [spQuarrel, onK_t hTl (by omega), ← htab, onK_t hil (by omega), onK_t hw (by decide), if_pos c92, hget]]; exact ⟨h00, rfl, hS⟩, hF0⟩ dX11_quarrel_112
              · rw [oI_m1 (fun k hk2 => by have := qAt_lt hk2; omega)] at c79
                refine lv_goto (tgt := 116) hE.1 hE.2.1 dX11_quarrel_82 (by decide) ?_
                have hl : lv_has ls 8 [(7, .int (oI (qAt tab x y))), (0, .ref (G.ad 0)), (1, .int (nI T)), (2, .int (nI i)), (3, .int (nI w)), (4, .int (nI ((qUp tab x ++ qRow tab x (y + 1)).length))), (5, .int (nI x)), (6, .int (nI y))] := by rw [qRow_n (by omega) c79]; exact hl
                refine lv_iinc (v := nI (y + 1)) (lv' := [(6, .int (nI (y + 1))), (7, .int (oI (qAt tab x y))), (0, .ref (G.ad 0)), (1, .int (nI T)), (2, .int (nI i)), (3, .int (nI w)), (4, .int (nI ((qUp tab x ++ qRow tab x (y + 1)).length))), (5, .int (nI x))]) hE.1 hE.2.1 dX11_quarrel_116 hl (k := 7) rfl (nI_1 _) (by decide) rfl (fun ls hl => ?_)
                refine lv_goto (tgt := 54) hE.1 hE.2.1 dX11_quarrel_119 (by decide) ?_
                exact ih54 (y + 1) _ _ _ (by omega) ⟨by omega, by omega, by rw [qRow_n (by omega) c79]; exact hyi⟩ (lv_sub hl [2, 3, 4, 5, 6, 7, 0] rfl) hH
        · refine lv_aload_n hE.1 hE.2.1 dX11_quarrel_26 rfl (lv_at hl 0 rfl) ?_
          refine rg_VI (As := []) (rest := []) hE hml hH mc_X11_215 (c_fail l z G hG iv1 jv) hG.1.1 hG.1.2 (by decide) rfl ⟨Nat.le_of_ble_eq_true rfl, Nat.le_of_ble_eq_true rfl⟩ rfl hl.1 (by simp [Value.category]) dX11_quarrel_27 ⟨Nat.le_of_ble_eq_true rfl, Nat.le_of_ble_eq_true rfl⟩ (fun r27 G27 iv27 jv27 H locs hp27 hH => ?_)
          obtain ⟨rfl, rfl, rfl, rfl⟩ := hp27
          exact rg_iret hE hr rfl hlk hH ⟨rfl, rfl, by rw [show spQuarrel a (nI T) (nI i) wx = no 1 a by rw [spQuarrel, onK_t hTl (by omega), ← htab, onK_no (fun j => onK_f (inI_gt (by decide) c23))]]; exact ⟨rfl, rfl, hS.c0⟩, hF0.tr up0_M⟩ dX11_quarrel_30
set_option maxRecDepth 100000 in
set_option maxHeartbeats 4000000 in
theorem c_idle (l : Launch) (z : ZK) (G : GW) (hG : isM G) (iv : IV) (jv : JV) (a : AS) (hS : MSt iv a) (t rx : Int32) : cI l z yX11_idle cX11_idle 3 (some .boolean) 4 99 0 0 [.ref (G.ad 0), .int (t), .int (rx)] G iv jv (fun r G' iv' jv' => G = G' ∧ jv = jv' ∧ (iv' 0 0 = nI (spIdle a t rx).1 ∧ r = (spIdle a t rx).2.1 ∧ MSt iv' (spIdle a t rx).2.2) ∧ Fr iv iv' pM) := by
  intro sz
  refine rg_entry rfl (Nat.le_of_ble_eq_true rfl) ?_
  intro pq eq sq mq bq methq cq ls hE hr hlk hml hnm hl hsz hH
  have hl : lv_has ls 3 [(0, .ref (G.ad 0)), (1, .int (t)), (2, .int (rx))] := hl
  refine lv_aload_n hE.1 hE.2.1 dX11_idle_0 rfl (lv_at hl 0 rfl) ?_
  refine lv_iconst (v := nI 0) hE.1 hE.2.1 dX11_idle_1 (by decide) ?_
  refine rm_puti hE hH hG fl_X11_96 rfl fn_X11_0 (v := nI 0) dX11_idle_2 (fun H locs hH => ?_)
  have hF0 : Fr iv (up2 iv 0 0 (nI 0)) pM := up0_M
  have hS : MSt (up2 iv 0 0 (nI 0)) a := hS.c0
  have h00 : (up2 iv 0 0 (nI 0)) 0 0 = nI 0 := rfl
  generalize up2 iv 0 0 (nI 0) = iv1 at hH hS hF0 h00
  have hS6 := hS.2.2.1.2.1
  have hS12 := hS.2.2.2.1.2.1
  have hS3 := hS.1.2.1
  have hSo := hS.2.2.2.2.2.1
  refine lv_aload_n hE.1 hE.2.1 dX11_idle_5 rfl (lv_at hl 0 rfl) ?_
  refine lv_iload_n hE.1 hE.2.1 dX11_idle_6 rfl (lv_at hl 1 rfl) ?_
  refine rg_VI (As := [.int (t)]) (rest := []) hE hml hH mc_X11_231 (c_isTable l z G hG iv1 jv t (aT a).length hS.2.2.1.1) hG.1.1 hG.1.2 (by decide) rfl ⟨Nat.le_of_ble_eq_true rfl, Nat.le_of_ble_eq_true rfl⟩ rfl hl.1 (by simp [Value.category]) dX11_idle_7 ⟨Nat.le_of_ble_eq_true rfl, Nat.le_of_ble_eq_true rfl⟩ (fun r7 G7 iv7 jv7 H locs hp7 hH => ?_)
  obtain ⟨rfl, rfl, rfl, rfl⟩ := hp7
  refine rn_ifb_eq (tgt := 27) hE dX11_idle_10 (by decide) (fun c10 => ?_) (fun c10 => ?_)
  · refine lv_aload_n hE.1 hE.2.1 dX11_idle_27 rfl (lv_at hl 0 rfl) ?_
    refine rg_VI (As := []) (rest := []) hE hml hH mc_X11_215 (c_fail l z G hG iv1 jv) hG.1.1 hG.1.2 (by decide) rfl ⟨Nat.le_of_ble_eq_true rfl, Nat.le_of_ble_eq_true rfl⟩ rfl hl.1 (by simp [Value.category]) dX11_idle_28 ⟨Nat.le_of_ble_eq_true rfl, Nat.le_of_ble_eq_true rfl⟩ (fun r28 G28 iv28 jv28 H locs hp28 hH => ?_)
    obtain ⟨rfl, rfl, rfl, rfl⟩ := hp28
    refine lv_pop hE.1 hE.2.1 dX11_idle_31 rfl ?_
    refine lv_iconst (v := nI 0) hE.1 hE.2.1 dX11_idle_32 (by decide) ?_
    exact rg_iret hE hr (nz_0) hlk hH ⟨rfl, rfl, by rw [show spIdle a t rx = no 1 a by rw [spIdle, onK_f c10]]; exact ⟨rfl, rfl, hS.c0⟩, hF0.tr up0_M⟩ dX11_idle_33
  · obtain ⟨T, hTl, rfl⟩ := inI_of (by omega) c10
    have hT : T < 6 := by omega
    obtain ⟨tab, htab⟩ : ∃ x, x = aTb a T := ⟨_, rfl⟩
    have hFT : FT iv1 T tab := by rw [htab]; exact (hS.2.2.1.2.2.1 T hTl).1
    have hTW : tabW tab := by rw [htab]; exact (hS.2.2.1.2.2.1 T hTl).2.1
    have hLD : LD iv1 T tab := by rw [htab]; exact (hS.2.2.1.2.2.1 T hTl).2.2
    have hB := hFT.1
    have hk := hFT.2.1
    have hA := hFT.2.2
    have h8 := hB.f.1
    have h10 := hB.f.2.1
    have h9 := hB.f.2.2.1
    have h13 := hB.f.2.2.2.1
    have h14 := hB.f.2.2.2.2.1
    have hm5 := hk.2.1
    have hm1 := hk.1
    have hC := hk.2.2.2.1
    have hR40 := hk.2.2.2.2.2.2.1
    refine lv_iload_n hE.1 hE.2.1 dX11_idle_13 rfl (lv_at hl 2 rfl) ?_
    refine lv_if_lt (tgt := 27) hE.1 hE.2.1 dX11_idle_14 (by decide) (fun c14 => ?_) (fun c14 => ?_)
    · refine lv_aload_n hE.1 hE.2.1 dX11_idle_27 rfl (lv_at hl 0 rfl) ?_
      refine rg_VI (As := []) (rest := []) hE hml hH mc_X11_215 (c_fail l z G hG iv1 jv) hG.1.1 hG.1.2 (by decide) rfl ⟨Nat.le_of_ble_eq_true rfl, Nat.le_of_ble_eq_true rfl⟩ rfl hl.1 (by simp [Value.category]) dX11_idle_28 ⟨Nat.le_of_ble_eq_true rfl, Nat.le_of_ble_eq_true rfl⟩ (fun r28 G28 iv28 jv28 H locs hp28 hH => ?_)
      obtain ⟨rfl, rfl, rfl, rfl⟩ := hp28
      refine lv_pop hE.1 hE.2.1 dX11_idle_31 rfl ?_
      refine lv_iconst (v := nI 0) hE.1 hE.2.1 dX11_idle_32 (by decide) ?_
      exact rg_iret hE hr (nz_0) hlk hH ⟨rfl, rfl, by rw [show spIdle a (nI T) rx = no 1 a by rw [spIdle, onK_t hTl (by omega), ← htab, onK_f (inI_lt c14)]]; exact ⟨rfl, rfl, hS.c0⟩, hF0.tr up0_M⟩ dX11_idle_33
    · refine lv_iload_n hE.1 hE.2.1 dX11_idle_17 rfl (lv_at hl 2 rfl) ?_
      refine lv_aload_n hE.1 hE.2.1 dX11_idle_18 rfl (lv_at hl 0 rfl) ?_
      refine rm_getr hE hH hG fl_X11_23 rfl (by decide) dX11_idle_19 ?_
      refine lv_iload_n hE.1 hE.2.1 dX11_idle_22 rfl (lv_at hl 1 rfl) ?_
      refine rm_iald hE hH hG (k := 9) (by decide) rfl (N := 6) rfl (n := T) (by omega) (v := nI (tR tab)) (h9) dX11_idle_23 ?_
      refine lv_icmp_lt (tgt := 34) hE.1 hE.2.1 dX11_idle_24 (by decide) (fun c24 => ?_) (fun c24 => ?_)
      · obtain ⟨r, hr2, rfl⟩ := inI_of (by omega) (inI_t c14 (lt_nle c24))
        refine lv_aload_n hE.1 hE.2.1 dX11_idle_34 rfl (lv_at hl 0 rfl) ?_
        refine lv_iload_n hE.1 hE.2.1 dX11_idle_35 rfl (lv_at hl 1 rfl) ?_
        refine lv_iload_n hE.1 hE.2.1 dX11_idle_36 rfl (lv_at hl 2 rfl) ?_
        refine rg_VI (As := [.int (nI T), .int (nI r)]) (rest := []) hE hml hH mc_X11_281 (c_isIdle l z G hG iv1 jv T hT tab hFT r (by omega)) hG.1.1 hG.1.2 (by decide) rfl ⟨Nat.le_of_ble_eq_true rfl, Nat.le_of_ble_eq_true rfl⟩ rfl hl.1 (by simp [Value.category]) dX11_idle_37 ⟨Nat.le_of_ble_eq_true rfl, Nat.le_of_ble_eq_true rfl⟩ (fun r37 G37 iv37 jv37 H locs hp37 hH => ?_)
        obtain ⟨rfl, rfl, rfl, rfl⟩ := hp37
        exact rg_iret hE hr nz_bI hlk hH ⟨rfl, rfl, by rw [show spIdle a (nI T) (nI r) = ok (bI (idl tab r)) a by rw [spIdle, onK_t hTl (by omega), ← htab, onK_t hr2 (by omega)]]; exact ⟨h00, rfl, hS⟩, hF0⟩ dX11_idle_40
      · refine lv_aload_n hE.1 hE.2.1 dX11_idle_27 rfl (lv_at hl 0 rfl) ?_
        refine rg_VI (As := []) (rest := []) hE hml hH mc_X11_215 (c_fail l z G hG iv1 jv) hG.1.1 hG.1.2 (by decide) rfl ⟨Nat.le_of_ble_eq_true rfl, Nat.le_of_ble_eq_true rfl⟩ rfl hl.1 (by simp [Value.category]) dX11_idle_28 ⟨Nat.le_of_ble_eq_true rfl, Nat.le_of_ble_eq_true rfl⟩ (fun r28 G28 iv28 jv28 H locs hp28 hH => ?_)
        obtain ⟨rfl, rfl, rfl, rfl⟩ := hp28
        refine lv_pop hE.1 hE.2.1 dX11_idle_31 rfl ?_
        refine lv_iconst (v := nI 0) hE.1 hE.2.1 dX11_idle_32 (by decide) ?_
        exact rg_iret hE hr (nz_0) hlk hH ⟨rfl, rfl, by rw [show spIdle a (nI T) rx = no 1 a by rw [spIdle, onK_t hTl (by omega), ← htab, onK_f (inI_ge (nlt_le c24))]]; exact ⟨rfl, rfl, hS.c0⟩, hF0.tr up0_M⟩ dX11_idle_33
