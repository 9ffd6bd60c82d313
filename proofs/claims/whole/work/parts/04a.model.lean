set_option maxRecDepth 100000 in
set_option maxHeartbeats 4000000 in
theorem c_told (l : Launch) (z : ZK) (G : GW) (hG : isM G) (iv : IV) (jv : JV) (a : AS) (hS : MSt iv a) (kx : Int32) : cI l z yX11_told cX11_told 2 (some .int) 2 41 0 0 [.ref (G.ad 0), .int (kx)] G iv jv (fun r G' iv' jv' => G = G' ∧ jv = jv' ∧ (iv' 0 0 = nI (spTold a kx).1 ∧ r = (spTold a kx).2.1 ∧ MSt iv' (spTold a kx).2.2) ∧ Fr iv iv' pM) := by
  intro sz
  refine rg_entry rfl (Nat.le_of_ble_eq_true rfl) ?_
  intro pq eq sq mq bq methq cq ls hE hr hlk hml hnm hl hsz hH
  have hl : lv_has ls 2 [(0, .ref (G.ad 0)), (1, .int (kx))] := hl
  refine lv_aload_n hE.1 hE.2.1 dX11_told_0 rfl (lv_at hl 0 rfl) ?_
  refine lv_iconst (v := nI 0) hE.1 hE.2.1 dX11_told_1 (by decide) ?_
  refine rm_puti hE hH hG fl_X11_96 rfl fn_X11_0 (v := nI 0) dX11_told_2 (fun H locs hH => ?_)
  have hF0 : Fr iv (up2 iv 0 0 (nI 0)) pM := up0_M
  have hS : MSt (up2 iv 0 0 (nI 0)) a := hS.c0
  have h00 : (up2 iv 0 0 (nI 0)) 0 0 = nI 0 := rfl
  generalize up2 iv 0 0 (nI 0) = iv1 at hH hS hF0 h00
  have hS6 := hS.2.2.1.2.1
  have hS12 := hS.2.2.2.1.2.1
  have hS3 := hS.1.2.1
  have hSo := hS.2.2.2.2.2.1
  refine lv_iload_n hE.1 hE.2.1 dX11_told_5 rfl (lv_at hl 1 rfl) ?_
  refine lv_if_lt (tgt := 17) hE.1 hE.2.1 dX11_told_6 (by decide) (fun c6 => ?_) (fun c6 => ?_)
  · refine lv_aload_n hE.1 hE.2.1 dX11_told_17 rfl (lv_at hl 0 rfl) ?_
    refine rg_VI (As := []) (rest := []) hE hml hH mc_X11_215 (c_fail l z G hG iv1 jv) hG.1.1 hG.1.2 (by decide) rfl ⟨Nat.le_of_ble_eq_true rfl, Nat.le_of_ble_eq_true rfl⟩ rfl hl.1 (by simp [Value.category]) dX11_told_18 ⟨Nat.le_of_ble_eq_true rfl, Nat.le_of_ble_eq_true rfl⟩ (fun r18 G18 iv18 jv18 H locs hp18 hH => ?_)
    obtain ⟨rfl, rfl, rfl, rfl⟩ := hp18
    refine lv_goto (tgt := 30) hE.1 hE.2.1 dX11_told_21 (by decide) ?_
    exact rg_iret hE hr rfl hlk hH ⟨rfl, rfl, by rw [show spTold a kx = no 1 a by rw [spTold, onK_f (inI_lt c6)]]; exact ⟨rfl, rfl, hS.c0⟩, hF0.tr up0_M⟩ dX11_told_30
  · refine lv_iload_n hE.1 hE.2.1 dX11_told_9 rfl (lv_at hl 1 rfl) ?_
    refine lv_aload_n hE.1 hE.2.1 dX11_told_10 rfl (lv_at hl 0 rfl) ?_
    refine rg_VI (As := []) (rest := [.int (kx)]) hE hml hH mc_X11_313 (c_bytes l z G hG iv1 jv (aO a).length hSo hS.2.2.2.2.1) hG.1.1 hG.1.2 (by decide) rfl ⟨Nat.le_of_ble_eq_true rfl, Nat.le_of_ble_eq_true rfl⟩ rfl hl.1 (by simp [Value.category]) dX11_told_11 ⟨Nat.le_of_ble_eq_true rfl, Nat.le_of_ble_eq_true rfl⟩ (fun r11 G11 iv11 jv11 H locs hp11 hH => ?_)
    obtain ⟨rfl, rfl, rfl, rfl⟩ := hp11
    refine lv_icmp_lt (tgt := 24) hE.1 hE.2.1 dX11_told_14 (by decide) (fun c14 => ?_) (fun c14 => ?_)
    · obtain ⟨k, hkl, rfl⟩ := inI_of (by omega) (inI_t c6 (lt_nle c14))
      refine lv_aload_n hE.1 hE.2.1 dX11_told_24 rfl (lv_at hl 0 rfl) ?_
      refine rm_getr hE hH hG fl_X11_13 rfl (by decide) dX11_told_25 ?_
      refine lv_iload_n hE.1 hE.2.1 dX11_told_28 rfl (lv_at hl 1 rfl) ?_
      refine rm_iald hE hH hG (k := 2) (by decide) rfl (N := 2000) rfl (n := k) (by omega) (v := nI ((aO a).getD k 0)) ((hS.2.2.2.2.2.2 k (by omega) (by omega)).1) dX11_told_29 ?_
      exact rg_iret hE hr rfl hlk hH ⟨rfl, rfl, by rw [show spTold a (nI k) = ok (nI ((aO a).getD k 0)) a by rw [spTold, onK_t hkl (by omega)]]; exact ⟨h00, rfl, hS⟩, hF0⟩ dX11_told_30
    · refine lv_aload_n hE.1 hE.2.1 dX11_told_17 rfl (lv_at hl 0 rfl) ?_
      refine rg_VI (As := []) (rest := []) hE hml hH mc_X11_215 (c_fail l z G hG iv1 jv) hG.1.1 hG.1.2 (by decide) rfl ⟨Nat.le_of_ble_eq_true rfl, Nat.le_of_ble_eq_true rfl⟩ rfl hl.1 (by simp [Value.category]) dX11_told_18 ⟨Nat.le_of_ble_eq_true rfl, Nat.le_of_ble_eq_true rfl⟩ (fun r18 G18 iv18 jv18 H locs hp18 hH => ?_)
      obtain ⟨rfl, rfl, rfl, rfl⟩ := hp18
      refine lv_goto (tgt := 30) hE.1 hE.2.1 dX11_told_21 (by decide) ?_
      exact rg_iret hE hr rfl hlk hH ⟨rfl, rfl, by rw [show spTold a kx = no 1 a by rw [spTold, onK_f (inI_ge (nlt_le c14))]]; exact ⟨rfl, rfl, hS.c0⟩, hF0.tr up0_M⟩ dX11_told_30
set_option maxRecDepth 100000 in
set_option maxHeartbeats 4000000 in
theorem c_run (l : Launch) (z : ZK) (G : GW) (hG : isM G) (iv : IV) (jv : JV) (a : AS) (hS : MSt iv a) (px cx : Int32) : cI l z yX11_run cX11_run 3 (some .int) 2 52 0 0 [.ref (G.ad 0), .int (px), .int (cx)] G iv jv (fun r G' iv' jv' => G = G' ∧ jv = jv' ∧ (iv' 0 0 = nI (spRun a px cx).1 ∧ r = (spRun a px cx).2.1 ∧ MSt iv' (spRun a px cx).2.2) ∧ Fr iv iv' pM) := by
  intro sz
  refine rg_entry rfl (Nat.le_of_ble_eq_true rfl) ?_
  intro pq eq sq mq bq methq cq ls hE hr hlk hml hnm hl hsz hH
  have hl : lv_has ls 3 [(0, .ref (G.ad 0)), (1, .int (px)), (2, .int (cx))] := hl
  refine lv_aload_n hE.1 hE.2.1 dX11_run_0 rfl (lv_at hl 0 rfl) ?_
  refine lv_iconst (v := nI 0) hE.1 hE.2.1 dX11_run_1 (by decide) ?_
  refine rm_puti hE hH hG fl_X11_96 rfl fn_X11_0 (v := nI 0) dX11_run_2 (fun H locs hH => ?_)
  have hF0 : Fr iv (up2 iv 0 0 (nI 0)) pM := up0_M
  have hS : MSt (up2 iv 0 0 (nI 0)) a := hS.c0
  have h00 : (up2 iv 0 0 (nI 0)) 0 0 = nI 0 := rfl
  generalize up2 iv 0 0 (nI 0) = iv1 at hH hS hF0 h00
  have hS6 := hS.2.2.1.2.1
  have hS12 := hS.2.2.2.1.2.1
  have hS3 := hS.1.2.1
  have hSo := hS.2.2.2.2.2.1
  refine lv_aload_n hE.1 hE.2.1 dX11_run_5 rfl (lv_at hl 0 rfl) ?_
  refine lv_iload_n hE.1 hE.2.1 dX11_run_6 rfl (lv_at hl 1 rfl) ?_
  refine rg_VI (As := [.int (px)]) (rest := []) hE hml hH mc_X11_316 (c_isProgram l z G hG iv1 jv px (aP a).length hS.2.2.2.1.1) hG.1.1 hG.1.2 (by decide) rfl ⟨Nat.le_of_ble_eq_true rfl, Nat.le_of_ble_eq_true rfl⟩ rfl hl.1 (by simp [Value.category]) dX11_run_7 ⟨Nat.le_of_ble_eq_true rfl, Nat.le_of_ble_eq_true rfl⟩ (fun r7 G7 iv7 jv7 H locs hp7 hH => ?_)
  obtain ⟨rfl, rfl, rfl, rfl⟩ := hp7
  refine rn_ifb_eq (tgt := 31) hE dX11_run_10 (by decide) (fun c10 => ?_) (fun c10 => ?_)
  · refine lv_aload_n hE.1 hE.2.1 dX11_run_31 rfl (lv_at hl 0 rfl) ?_
    refine rg_VI (As := []) (rest := []) hE hml hH mc_X11_215 (c_fail l z G hG iv1 jv) hG.1.1 hG.1.2 (by decide) rfl ⟨Nat.le_of_ble_eq_true rfl, Nat.le_of_ble_eq_true rfl⟩ rfl hl.1 (by simp [Value.category]) dX11_run_32 ⟨Nat.le_of_ble_eq_true rfl, Nat.le_of_ble_eq_true rfl⟩ (fun r32 G32 iv32 jv32 H locs hp32 hH => ?_)
    obtain ⟨rfl, rfl, rfl, rfl⟩ := hp32
    refine lv_goto (tgt := 44) hE.1 hE.2.1 dX11_run_35 (by decide) ?_
    exact rg_iret hE hr rfl hlk hH ⟨rfl, rfl, by rw [show spRun a px cx = no 1 a by rw [spRun, onK_f c10]]; exact ⟨rfl, rfl, hS.c0⟩, hF0.tr up0_M⟩ dX11_run_44
  · obtain ⟨P, hPl, rfl⟩ := inI_of (by omega) c10
    have hP : P < 12 := by omega
    obtain ⟨T, hTq⟩ : ∃ x, x = (aPg a P).1 := ⟨_, rfl⟩
    obtain ⟨g, hgq⟩ : ∃ x, x = (aPg a P).2 := ⟨_, rfl⟩
    have h16 : iv1 16 P = nI T := by rw [hTq]; exact (hS.2.2.2.1.2.2 P hPl).1
    have hTl : T < (aT a).length := by rw [hTq]; exact (hS.2.2.2.1.2.2 P hPl).2.1
    have hT : T < 6 := by omega
    obtain ⟨tab, htab⟩ : ∃ x, x = aTb a T := ⟨_, rfl⟩
    have hFT : FT iv1 T tab := by rw [htab]; exact (hS.2.2.1.2.2.1 T hTl).1
    have hTW : tabW tab := by rw [htab]; exact (hS.2.2.1.2.2.1 T hTl).2.1
    have hLD : LD iv1 T tab := by rw [htab]; exact (hS.2.2.1.2.2.1 T hTl).2.2
    have hB := hFT.1
    have hk := hFT.2.1
    have hA := hFT.2.2
    have h8 := hB.f.1
    have h10 := hB.f.2.1
    have h9 := hB.f.2.2.1
    have h13 := hB.f.2.2.2.1
    have h14 := hB.f.2.2.2.2.1
    have hm5 := hk.2.1
    have hm1 := hk.1
    have hC := hk.2.2.2.1
    have hR40 := hk.2.2.2.2.2.2.1
    have hPR : PRG iv1 P g := by rw [hgq]; exact (hS.2.2.2.1.2.2 P hPl).2.2.1
    have hg : prgOK tab g := by rw [hgq, htab, hTq]; exact (hS.2.2.2.1.2.2 P hPl).2.2.2
    have hO6 := hk.2.2.2.2.2.1
    refine lv_iload_n hE.1 hE.2.1 dX11_run_13 rfl (lv_at hl 2 rfl) ?_
    refine lv_if_lt (tgt := 31) hE.1 hE.2.1 dX11_run_14 (by decide) (fun c14 => ?_) (fun c14 => ?_)
    · refine lv_aload_n hE.1 hE.2.1 dX11_run_31 rfl (lv_at hl 0 rfl) ?_
      refine rg_VI (As := []) (rest := []) hE hml hH mc_X11_215 (c_fail l z G hG iv1 jv) hG.1.1 hG.1.2 (by decide) rfl ⟨Nat.le_of_ble_eq_true rfl, Nat.le_of_ble_eq_true rfl⟩ rfl hl.1 (by simp [Value.category]) dX11_run_32 ⟨Nat.le_of_ble_eq_true rfl, Nat.le_of_ble_eq_true rfl⟩ (fun r32 G32 iv32 jv32 H locs hp32 hH => ?_)
      obtain ⟨rfl, rfl, rfl, rfl⟩ := hp32
      refine lv_goto (tgt := 44) hE.1 hE.2.1 dX11_run_35 (by decide) ?_
      exact rg_iret hE hr rfl hlk hH ⟨rfl, rfl, by rw [show spRun a (nI P) cx = no 1 a by rw [spRun, onK_t hPl (by omega), ← hTq, ← htab, onK_f (inI_lt c14)]]; exact ⟨rfl, rfl, hS.c0⟩, hF0.tr up0_M⟩ dX11_run_44
    · refine lv_iload_n hE.1 hE.2.1 dX11_run_17 rfl (lv_at hl 2 rfl) ?_
      refine lv_aload_n hE.1 hE.2.1 dX11_run_18 rfl (lv_at hl 0 rfl) ?_
      refine lv_aload_n hE.1 hE.2.1 dX11_run_19 rfl (lv_at hl 0 rfl) ?_
      refine rm_getr hE hH hG fl_X11_44 rfl (by decide) dX11_run_20 ?_
      refine lv_iload_n hE.1 hE.2.1 dX11_run_23 rfl (lv_at hl 1 rfl) ?_
      refine rm_iald hE hH hG (k := 16) (by decide) rfl (N := 12) rfl (n := P) (by omega) (v := nI T) (h16) dX11_run_24 ?_
      refine rg_VI (As := [.int (nI T)]) (rest := [.int (cx)]) hE hml hH mc_X11_205 (c_casesOf l z G hG iv1 jv T (tm tab) hT hm5 (tf tab) h8 h10) hG.1.1 hG.1.2 (by decide) rfl ⟨Nat.le_of_ble_eq_true rfl, Nat.le_of_ble_eq_true rfl⟩ rfl hl.1 (by simp [Value.category]) dX11_run_25 ⟨Nat.le_of_ble_eq_true rfl, Nat.le_of_ble_eq_true rfl⟩ (fun r25 G25 iv25 jv25 H locs hp25 hH => ?_)
      obtain ⟨rfl, rfl, rfl, rfl⟩ := hp25
      refine rn_as (v' := nI (tC tab)) rfl ?_
      refine lv_icmp_lt (tgt := 38) hE.1 hE.2.1 dX11_run_28 (by decide) (fun c28 => ?_) (fun c28 => ?_)
      · obtain ⟨c, hc, rfl⟩ := inI_of (by omega) (inI_t c14 (lt_nle c28))
        refine lv_aload_n hE.1 hE.2.1 dX11_run_38 rfl (lv_at hl 0 rfl) ?_
        refine lv_iload_n hE.1 hE.2.1 dX11_run_39 rfl (lv_at hl 1 rfl) ?_
        refine lv_iload_n hE.1 hE.2.1 dX11_run_40 rfl (lv_at hl 2 rfl) ?_
        refine rg_VI (As := [.int (nI P), .int (nI c)]) (rest := []) hE hml hH mc_X11_319 (c_answers0 l z G hG iv1 jv T hT tab hk hB P hP g hg hPR h16 c (by omega)) hG.1.1 hG.1.2 (by decide) rfl ⟨Nat.le_of_ble_eq_true rfl, Nat.le_of_ble_eq_true rfl⟩ rfl hl.1 (by simp [Value.category]) dX11_run_41 ⟨Nat.le_of_ble_eq_true rfl, Nat.le_of_ble_eq_true rfl⟩ (fun r41 G41 iv41 jv41 H locs hp41 hH => ?_)
        obtain ⟨rfl, rfl, rfl, rfl⟩ := hp41
        exact rg_iret hE hr rfl hlk hH ⟨rfl, rfl, by rw [show spRun a (nI P) (nI c) = ok (nI (pAns tab g c)) a by rw [spRun, onK_t hPl (by omega), ← hTq, ← htab, onK_t hc (by omega), ← hgq]]; exact ⟨h00, rfl, hS⟩, hF0⟩ dX11_run_44
      · refine lv_aload_n hE.1 hE.2.1 dX11_run_31 rfl (lv_at hl 0 rfl) ?_
        refine rg_VI (As := []) (rest := []) hE hml hH mc_X11_215 (c_fail l z G hG iv1 jv) hG.1.1 hG.1.2 (by decide) rfl ⟨Nat.le_of_ble_eq_true rfl, Nat.le_of_ble_eq_true rfl⟩ rfl hl.1 (by simp [Value.category]) dX11_run_32 ⟨Nat.le_of_ble_eq_true rfl, Nat.le_of_ble_eq_true rfl⟩ (fun r32 G32 iv32 jv32 H locs hp32 hH => ?_)
        obtain ⟨rfl, rfl, rfl, rfl⟩ := hp32
        refine lv_goto (tgt := 44) hE.1 hE.2.1 dX11_run_35 (by decide) ?_
        exact rg_iret hE hr rfl hlk hH ⟨rfl, rfl, by rw [show spRun a (nI P) cx = no 1 a by rw [spRun, onK_t hPl (by omega), ← hTq, ← htab, onK_f (inI_ge (nlt_le c28))]]; exact ⟨rfl, rfl, hS.c0⟩, hF0.tr up0_M⟩ dX11_run_44
set_option maxRecDepth 100000 in
set_option maxHeartbeats 4000000 in
theorem c_fails (l : Launch) (z : ZK) (G : GW) (hG : isM G) (iv : IV) (jv : JV) (a : AS) (hS : MSt iv a) (px x : Int32) : cI l z yX11_fails cX11_fails 5 (some .int) 3 77 0 0 [.ref (G.ad 0), .int (px), .int (x)] G iv jv (fun r G' iv' jv' => G = G' ∧ jv = jv' ∧ (iv' 0 0 = nI (spFails a px x).1 ∧ r = (spFails a px x).2.1 ∧ MSt iv' (spFails a px x).2.2) ∧ Fr iv iv' pM) := by
  intro sz
  refine rg_entry rfl (Nat.le_of_ble_eq_true rfl) ?_
  intro pq eq sq mq bq methq cq ls hE hr hlk hml hnm hl hsz hH
  have hl : lv_has ls 5 [(0, .ref (G.ad 0)), (1, .int (px)), (2, .int (x))] := hl
  refine lv_aload_n hE.1 hE.2.1 dX11_fails_0 rfl (lv_at hl 0 rfl) ?_
  refine lv_iconst (v := nI 0) hE.1 hE.2.1 dX11_fails_1 (by decide) ?_
  refine rm_puti hE hH hG fl_X11_96 rfl fn_X11_0 (v := nI 0) dX11_fails_2 (fun H locs hH => ?_)
  have hF0 : Fr iv (up2 iv 0 0 (nI 0)) pM := up0_M
  have hS : MSt (up2 iv 0 0 (nI 0)) a := hS.c0
  have h00 : (up2 iv 0 0 (nI 0)) 0 0 = nI 0 := rfl
  generalize up2 iv 0 0 (nI 0) = iv1 at hH hS hF0 h00
  have hS6 := hS.2.2.1.2.1
  have hS12 := hS.2.2.2.1.2.1
  have hS3 := hS.1.2.1
  have hSo := hS.2.2.2.2.2.1
  refine lv_aload_n hE.1 hE.2.1 dX11_fails_5 rfl (lv_at hl 0 rfl) ?_
  refine lv_iload_n hE.1 hE.2.1 dX11_fails_6 rfl (lv_at hl 1 rfl) ?_
  refine rg_VI (As := [.int (px)]) (rest := []) hE hml hH mc_X11_316 (c_isProgram l z G hG iv1 jv px (aP a).length hS.2.2.2.1.1) hG.1.1 hG.1.2 (by decide) rfl ⟨Nat.le_of_ble_eq_true rfl, Nat.le_of_ble_eq_true rfl⟩ rfl hl.1 (by simp [Value.category]) dX11_fails_7 ⟨Nat.le_of_ble_eq_true rfl, Nat.le_of_ble_eq_true rfl⟩ (fun r7 G7 iv7 jv7 H locs hp7 hH => ?_)
  obtain ⟨rfl, rfl, rfl, rfl⟩ := hp7
  refine rn_ifb_eq (tgt := 33) hE dX11_fails_10 (by decide) (fun c10 => ?_) (fun c10 => ?_)
  · refine lv_aload_n hE.1 hE.2.1 dX11_fails_33 rfl (lv_at hl 0 rfl) ?_
    refine rg_VI (As := []) (rest := []) hE hml hH mc_X11_215 (c_fail l z G hG iv1 jv) hG.1.1 hG.1.2 (by decide) rfl ⟨Nat.le_of_ble_eq_true rfl, Nat.le_of_ble_eq_true rfl⟩ rfl hl.1 (by simp [Value.category]) dX11_fails_34 ⟨Nat.le_of_ble_eq_true rfl, Nat.le_of_ble_eq_true rfl⟩ (fun r34 G34 iv34 jv34 H locs hp34 hH => ?_)
    obtain ⟨rfl, rfl, rfl, rfl⟩ := hp34
    exact rg_iret hE hr rfl hlk hH ⟨rfl, rfl, by rw [show spFails a px x = no 1 a by rw [spFails, onK_f c10]]; exact ⟨rfl, rfl, hS.c0⟩, hF0.tr up0_M⟩ dX11_fails_37
  · obtain ⟨P, hPl, rfl⟩ := inI_of (by omega) c10
    have hP : P < 12 := by omega
    obtain ⟨T, hTq⟩ : ∃ x, x = (aPg a P).1 := ⟨_, rfl⟩
    obtain ⟨g, hgq⟩ : ∃ x, x = (aPg a P).2 := ⟨_, rfl⟩
    have h16 : iv1 16 P = nI T := by rw [hTq]; exact (hS.2.2.2.1.2.2 P hPl).1
    have hTl : T < (aT a).length := by rw [hTq]; exact (hS.2.2.2.1.2.2 P hPl).2.1
    have hT : T < 6 := by omega
    obtain ⟨tab, htab⟩ : ∃ x, x = aTb a T := ⟨_, rfl⟩
    have hFT : FT iv1 T tab := by rw [htab]; exact (hS.2.2.1.2.2.1 T hTl).1
    have hTW : tabW tab := by rw [htab]; exact (hS.2.2.1.2.2.1 T hTl).2.1
    have hLD : LD iv1 T tab := by rw [htab]; exact (hS.2.2.1.2.2.1 T hTl).2.2
    have hB := hFT.1
    have hk := hFT.2.1
    have hA := hFT.2.2
    have h8 := hB.f.1
    have h10 := hB.f.2.1
    have h9 := hB.f.2.2.1
    have h13 := hB.f.2.2.2.1
    have h14 := hB.f.2.2.2.2.1
    have hm5 := hk.2.1
    have hm1 := hk.1
    have hC := hk.2.2.2.1
    have hR40 := hk.2.2.2.2.2.2.1
    have hPR : PRG iv1 P g := by rw [hgq]; exact (hS.2.2.2.1.2.2 P hPl).2.2.1
    have hg : prgOK tab g := by rw [hgq, htab, hTq]; exact (hS.2.2.2.1.2.2 P hPl).2.2.2
    have hO6 := hk.2.2.2.2.2.1
    refine lv_iload_n hE.1 hE.2.1 dX11_fails_13 rfl (lv_at hl 2 rfl) ?_
    refine lv_iconst (v := -1) hE.1 hE.2.1 dX11_fails_14 (by decide) ?_
    refine lv_icmp_lt (tgt := 33) hE.1 hE.2.1 dX11_fails_15 (by decide) (fun c15 => ?_) (fun c15 => ?_)
    · refine lv_aload_n hE.1 hE.2.1 dX11_fails_33 rfl (lv_at hl 0 rfl) ?_
      refine rg_VI (As := []) (rest := []) hE hml hH mc_X11_215 (c_fail l z G hG iv1 jv) hG.1.1 hG.1.2 (by decide) rfl ⟨Nat.le_of_ble_eq_true rfl, Nat.le_of_ble_eq_true rfl⟩ rfl hl.1 (by simp [Value.category]) dX11_fails_34 ⟨Nat.le_of_ble_eq_true rfl, Nat.le_of_ble_eq_true rfl⟩ (fun r34 G34 iv34 jv34 H locs hp34 hH => ?_)
      obtain ⟨rfl, rfl, rfl, rfl⟩ := hp34
      exact rg_iret hE hr rfl hlk hH ⟨rfl, rfl, by rw [show spFails a (nI P) x = no 1 a by rw [spFails, onK_t hPl (by omega), ← hTq, ← htab, onM_f (m1_lt c15).1 (inI_lt (m1_lt c15).2)]]; exact ⟨rfl, rfl, hS.c0⟩, hF0.tr up0_M⟩ dX11_fails_37
    · refine lv_iload_n hE.1 hE.2.1 dX11_fails_18 rfl (lv_at hl 2 rfl) ?_
      refine lv_aload_n hE.1 hE.2.1 dX11_fails_19 rfl (lv_at hl 0 rfl) ?_
      refine rm_getr hE hH hG fl_X11_23 rfl (by decide) dX11_fails_20 ?_
      refine lv_aload_n hE.1 hE.2.1 dX11_fails_23 rfl (lv_at hl 0 rfl) ?_
      refine rm_getr hE hH hG fl_X11_44 rfl (by decide) dX11_fails_24 ?_
      refine lv_iload_n hE.1 hE.2.1 dX11_fails_27 rfl (lv_at hl 1 rfl) ?_
      refine rm_iald hE hH hG (k := 16) (by decide) rfl (N := 12) rfl (n := P) (by omega) (v := nI T) (h16) dX11_fails_28 ?_
      refine rm_iald hE hH hG (k := 9) (by decide) rfl (N := 6) rfl (n := T) (by omega) (v := nI (tR tab)) (h9) dX11_fails_29 ?_
      refine lv_icmp_lt (tgt := 38) hE.1 hE.2.1 dX11_fails_30 (by decide) (fun c30 => ?_) (fun c30 => ?_)
      · obtain ⟨q, hqx, hqs⟩ : ∃ q : Option Nat, x = oI q ∧ ∀ f : Option Nat → RS, onM a x (tR tab) f = f q := by
          by_cases h : x = -1
          · exact ⟨none, h, fun f => onM_n h⟩
          · obtain ⟨k, hk3, rfl⟩ := m1_in (by omega) c15 c30 h
            exact ⟨some k, rfl, fun f => onM_s hk3 (by omega)⟩
        refine lv_iconst (v := nI 0) hE.1 hE.2.1 dX11_fails_38 (by decide) ?_
        refine lv_istore_n (lv' := [(3, .int (nI 0)), (0, .ref (G.ad 0)), (1, .int (nI P)), (2, .int (x))]) hE.1 hE.2.1 dX11_fails_39 rfl hl (by decide) rfl (fun ls hl => ?_)
        refine lv_iconst (v := nI 0) hE.1 hE.2.1 dX11_fails_40 (by decide) ?_
        refine lv_istore (lv' := [(4, .int (nI 0)), (3, .int (nI 0)), (0, .ref (G.ad 0)), (1, .int (nI P)), (2, .int (x))]) hE.1 hE.2.1 dX11_fails_41 hl (by decide) rfl (fun ls hl => ?_)
        refine rg_loop (σ := Nat) (nL := 5) (fun (c : Nat) => tC tab - c) (fun (c : Nat) => [(0, .ref (G.ad 0)), (1, .int (nI P)), (2, .int (x)), (3, .int (nI (cntN (fun c => pFail tab g x c) c))), (4, .int (nI c))]) (fun (c : Nat) => G) (fun (c : Nat) => iv1) (fun (c : Nat) => jv) (fun (c : Nat) => c ≤ tC tab) ?_ (0) (Nat.zero_le _) (lv_sub hl [2, 3, 4, 1, 0] rfl) hH
        rintro c H locs ls hcC hl hH ih43
        try dsimp only at hl hH ih43
        refine lv_iload hE.1 hE.2.1 dX11_fails_43 (lv_at hl 4 rfl) ?_
        refine lv_aload_n hE.1 hE.2.1 dX11_fails_45 rfl (lv_at hl 0 rfl) ?_
        refine lv_aload_n hE.1 hE.2.1 dX11_fails_46 rfl (lv_at hl 0 rfl) ?_
        refine rm_getr hE hH hG fl_X11_44 rfl (by decide) dX11_fails_47 ?_
        refine lv_iload_n hE.1 hE.2.1 dX11_fails_50 rfl (lv_at hl 1 rfl) ?_
        refine rm_iald hE hH hG (k := 16) (by decide) rfl (N := 12) rfl (n := P) (by omega) (v := nI T) (h16) dX11_fails_51 ?_
        refine rg_VI (As := [.int (nI T)]) (rest := [.int (nI c)]) hE hml hH mc_X11_205 (c_casesOf l z G hG iv1 jv T (tm tab) hT hm5 (tf tab) h8 h10) hG.1.1 hG.1.2 (by decide) rfl ⟨Nat.le_of_ble_eq_true rfl, Nat.le_of_ble_eq_true rfl⟩ rfl hl.1 (by simp [Value.category]) dX11_fails_52 ⟨Nat.le_of_ble_eq_true rfl, Nat.le_of_ble_eq_true rfl⟩ (fun r52 G52 iv52 jv52 H locs hp52 hH => ?_)
        obtain ⟨rfl, rfl, rfl, rfl⟩ := hp52
        refine rn_as (v' := nI (tC tab)) rfl ?_
        refine rn_icmp_ge (tgt := 83) hE dX11_fails_55 (by decide) (by omega) (by omega) (fun c55 => ?_) (fun c55 => ?_)
        · have hce : c = tC tab := by omega
          subst hce
          refine lv_iload_n hE.1 hE.2.1 dX11_fails_83 rfl (lv_at hl 3 rfl) ?_
          exact rg_iret hE hr rfl hlk hH ⟨rfl, rfl, by rw [show spFails a (nI P) x = ok (nI (cntN (fun c => pFail tab g x c) (tC tab))) a by rw [spFails, onK_t hPl (by omega), ← hTq, ← htab, hqs, ← hgq, ← hqx]]; exact ⟨h00, rfl, hS⟩, hF0⟩ dX11_fails_84
        · refine lv_iload_n hE.1 hE.2.1 dX11_fails_58 rfl (lv_at hl 3 rfl) ?_
          refine lv_aload_n hE.1 hE.2.1 dX11_fails_59 rfl (lv_at hl 0 rfl) ?_
          refine lv_iload_n hE.1 hE.2.1 dX11_fails_60 rfl (lv_at hl 1 rfl) ?_
          refine lv_iload_n hE.1 hE.2.1 dX11_fails_61 rfl (lv_at hl 2 rfl) ?_
          refine lv_iload hE.1 hE.2.1 dX11_fails_62 (lv_at hl 4 rfl) ?_
          refine rg_VI (As := [.int (nI P), .int (x), .int (nI c)]) (rest := [.int (nI (cntN (fun c => pFail tab g x c) c))]) hE hml hH mc_X11_322 (c_isFailed l z G hG iv1 jv T hT tab hFT P hP g hg hPR h16 x c (by omega)) hG.1.1 hG.1.2 (by decide) rfl ⟨Nat.le_of_ble_eq_true rfl, Nat.le_of_ble_eq_true rfl⟩ rfl hl.1 (by simp [Value.category]) dX11_fails_64 ⟨Nat.le_of_ble_eq_true rfl, Nat.le_of_ble_eq_true rfl⟩ (fun r64 G64 iv64 jv64 H locs hp64 hH => ?_)
          obtain ⟨rfl, rfl, rfl, rfl⟩ := hp64
          refine rn_ifb_eq (tgt := 74) hE dX11_fails_67 (by decide) (fun c67 => ?_) (fun c67 => ?_)
          · refine lv_iconst (v := nI 0) hE.1 hE.2.1 dX11_fails_74 (by decide) ?_
            refine rn_iadd hE dX11_fails_75 ?_
            refine lv_istore_n (lv' := [(3, .int (nI (cntN (fun c => pFail tab g x c) c + 0))), (0, .ref (G.ad 0)), (1, .int (nI P)), (2, .int (x)), (4, .int (nI c))]) hE.1 hE.2.1 dX11_fails_76 rfl hl (by decide) rfl (fun ls hl => ?_)
            have hl : lv_has ls 5 [(3, .int (nI (cntN (fun c => pFail tab g x c) (c + 1)))), (0, .ref (G.ad 0)), (1, .int (nI P)), (2, .int (x)), (4, .int (nI c))] := by rw [cntN]; simp only [c67]; exact hl
            refine lv_iinc (v := nI (c + 1)) (lv' := [(4, .int (nI (c + 1))), (3, .int (nI (cntN (fun c => pFail tab g x c) (c + 1)))), (0, .ref (G.ad 0)), (1, .int (nI P)), (2, .int (x))]) hE.1 hE.2.1 dX11_fails_77 hl (k := 4) rfl (nI_1 _) (by decide) rfl (fun ls hl => ?_)
            refine lv_goto (tgt := 43) hE.1 hE.2.1 dX11_fails_80 (by decide) ?_
            exact ih43 (c + 1) _ _ _ (by omega) (by omega) (lv_sub hl [2, 3, 4, 1, 0] rfl) hH
          · refine lv_iconst (v := nI 1) hE.1 hE.2.1 dX11_fails_70 (by decide) ?_
            refine lv_goto (tgt := 75) hE.1 hE.2.1 dX11_fails_71 (by decide) ?_
            refine rn_iadd hE dX11_fails_75 ?_
            refine lv_istore_n (lv' := [(3, .int (nI (cntN (fun c => pFail tab g x c) c + 1))), (0, .ref (G.ad 0)), (1, .int (nI P)), (2, .int (x)), (4, .int (nI c))]) hE.1 hE.2.1 dX11_fails_76 rfl hl (by decide) rfl (fun ls hl => ?_)
            have hl : lv_has ls 5 [(3, .int (nI (cntN (fun c => pFail tab g x c) (c + 1)))), (0, .ref (G.ad 0)), (1, .int (nI P)), (2, .int (x)), (4, .int (nI c))] := by rw [cntN]; simp only [c67]; exact hl
            refine lv_iinc (v := nI (c + 1)) (lv' := [(4, .int (nI (c + 1))), (3, .int (nI (cntN (fun c => pFail tab g x c) (c + 1)))), (0, .ref (G.ad 0)), (1, .int (nI P)), (2, .int (x))]) hE.1 hE.2.1 dX11_fails_77 hl (k := 4) rfl (nI_1 _) (by decide) rfl (fun ls hl => ?_)
            refine lv_goto (tgt := 43) hE.1 hE.2.1 dX11_fails_80 (by decide) ?_
            exact ih43 (c + 1) _ _ _ (by omega) (by omega) (lv_sub hl [2, 3, 4, 1, 0] rfl) hH
      · refine lv_aload_n hE.1 hE.2.1 dX11_fails_33 rfl (lv_at hl 0 rfl) ?_
        refine rg_VI (As := []) (rest := []) hE hml hH mc_X11_215 (c_fail l z G hG iv1 jv) hG.1.1 hG.1.2 (by decide) rfl ⟨Nat.le_of_ble_eq_true rfl, Nat.le_of_ble_eq_true rfl⟩ rfl hl.1 (by simp [Value.category]) dX11_fails_34 ⟨Nat.le_of_ble_eq_true rfl, Nat.le_of_ble_eq_true rfl⟩ (fun r34 G34 iv34 jv34 H locs hp34 hH => ?_)
        obtain ⟨rfl, rfl, rfl, rfl⟩ := hp34
        exact rg_iret hE hr rfl hlk hH ⟨rfl, rfl, by rw [show spFails a (nI P) x = no 1 a by rw [spFails, onK_t hPl (by omega), ← hTq, ← htab, onM_f (m1_ge (by omega) c30) (inI_ge (nlt_le c30))]]; exact ⟨rfl, rfl, hS.c0⟩, hF0.tr up0_M⟩ dX11_fails_37
set_option maxRecDepth 100000 in
set_option maxHeartbeats 4000000 in
theorem c_failing (l : Launch) (z : ZK) (G : GW) (hG : isM G) (iv : IV) (jv : JV) (a : AS) (hS : MSt iv a) (px x : Int32) : cI l z yX11_failing cX11_failing 4 (some .int) 3 77 0 0 [.ref (G.ad 0), .int (px), .int (x)] G iv jv (fun r G' iv' jv' => G = G' ∧ jv = jv' ∧ (iv' 0 0 = nI (spFailing a px x).1 ∧ r = (spFailing a px x).2.1 ∧ MSt iv' (spFailing a px x).2.2) ∧ Fr iv iv' pM) := by
  intro sz
  refine rg_entry rfl (Nat.le_of_ble_eq_true rfl) ?_
  intro pq eq sq mq bq methq cq ls hE hr hlk hml hnm hl hsz hH
  have hl : lv_has ls 4 [(0, .ref (G.ad 0)), (1, .int (px)), (2, .int (x))] := hl
  refine lv_aload_n hE.1 hE.2.1 dX11_failing_0 rfl (lv_at hl 0 rfl) ?_
  refine lv_iconst (v := nI 0) hE.1 hE.2.1 dX11_failing_1 (by decide) ?_
  refine rm_puti hE hH hG fl_X11_96 rfl fn_X11_0 (v := nI 0) dX11_failing_2 (fun H locs hH => ?_)
  have hF0 : Fr iv (up2 iv 0 0 (nI 0)) pM := up0_M
  have hS : MSt (up2 iv 0 0 (nI 0)) a := hS.c0
  have h00 : (up2 iv 0 0 (nI 0)) 0 0 = nI 0 := rfl
  generalize up2 iv 0 0 (nI 0) = iv1 at hH hS hF0 h00
  have hS6 := hS.2.2.1.2.1
  have hS12 := hS.2.2.2.1.2.1
  have hS3 := hS.1.2.1
  have hSo := hS.2.2.2.2.2.1
  refine lv_aload_n hE.1 hE.2.1 dX11_failing_5 rfl (lv_at hl 0 rfl) ?_
  refine lv_iload_n hE.1 hE.2.1 dX11_failing_6 rfl (lv_at hl 1 rfl) ?_
  refine rg_VI (As := [.int (px)]) (rest := []) hE hml hH mc_X11_316 (c_isProgram l z G hG iv1 jv px (aP a).length hS.2.2.2.1.1) hG.1.1 hG.1.2 (by decide) rfl ⟨Nat.le_of_ble_eq_true rfl, Nat.le_of_ble_eq_true rfl⟩ rfl hl.1 (by simp [Value.category]) dX11_failing_7 ⟨Nat.le_of_ble_eq_true rfl, Nat.le_of_ble_eq_true rfl⟩ (fun r7 G7 iv7 jv7 H locs hp7 hH => ?_)
  obtain ⟨rfl, rfl, rfl, rfl⟩ := hp7
  refine rn_ifb_eq (tgt := 33) hE dX11_failing_10 (by decide) (fun c10 => ?_) (fun c10 => ?_)
  · refine lv_aload_n hE.1 hE.2.1 dX11_failing_33 rfl (lv_at hl 0 rfl) ?_
    refine rg_VI (As := []) (rest := []) hE hml hH mc_X11_215 (c_fail l z G hG iv1 jv) hG.1.1 hG.1.2 (by decide) rfl ⟨Nat.le_of_ble_eq_true rfl, Nat.le_of_ble_eq_true rfl⟩ rfl hl.1 (by simp [Value.category]) dX11_failing_34 ⟨Nat.le_of_ble_eq_true rfl, Nat.le_of_ble_eq_true rfl⟩ (fun r34 G34 iv34 jv34 H locs hp34 hH => ?_)
    obtain ⟨rfl, rfl, rfl, rfl⟩ := hp34
    exact rg_iret hE hr rfl hlk hH ⟨rfl, rfl, by rw [show spFailing a px x = no 1 a by rw [spFailing, onK_f c10]]; exact ⟨rfl, rfl, hS.c0⟩, hF0.tr up0_M⟩ dX11_failing_37
  · obtain ⟨P, hPl, rfl⟩ := inI_of (by omega) c10
    have hP : P < 12 := by omega
    obtain ⟨T, hTq⟩ : ∃ x, x = (aPg a P).1 := ⟨_, rfl⟩
    obtain ⟨g, hgq⟩ : ∃ x, x = (aPg a P).2 := ⟨_, rfl⟩
    have h16 : iv1 16 P = nI T := by rw [hTq]; exact (hS.2.2.2.1.2.2 P hPl).1
    have hTl : T < (aT a).length := by rw [hTq]; exact (hS.2.2.2.1.2.2 P hPl).2.1
    have hT : T < 6 := by omega
    obtain ⟨tab, htab⟩ : ∃ x, x = aTb a T := ⟨_, rfl⟩
    have hFT : FT iv1 T tab := by rw [htab]; exact (hS.2.2.1.2.2.1 T hTl).1
    have hTW : tabW tab := by rw [htab]; exact (hS.2.2.1.2.2.1 T hTl).2.1
    have hLD : LD iv1 T tab := by rw [htab]; exact (hS.2.2.1.2.2.1 T hTl).2.2
    have hB := hFT.1
    have hk := hFT.2.1
    have hA := hFT.2.2
    have h8 := hB.f.1
    have h10 := hB.f.2.1
    have h9 := hB.f.2.2.1
    have h13 := hB.f.2.2.2.1
    have h14 := hB.f.2.2.2.2.1
    have hm5 := hk.2.1
    have hm1 := hk.1
    have hC := hk.2.2.2.1
    have hR40 := hk.2.2.2.2.2.2.1
    have hPR : PRG iv1 P g := by rw [hgq]; exact (hS.2.2.2.1.2.2 P hPl).2.2.1
    have hg : prgOK tab g := by rw [hgq, htab, hTq]; exact (hS.2.2.2.1.2.2 P hPl).2.2.2
    have hO6 := hk.2.2.2.2.2.1
    refine lv_iload_n hE.1 hE.2.1 dX11_failing_13 rfl (lv_at hl 2 rfl) ?_
    refine lv_iconst (v := -1) hE.1 hE.2.1 dX11_failing_14 (by decide) ?_
    refine lv_icmp_lt (tgt := 33) hE.1 hE.2.1 dX11_failing_15 (by decide) (fun c15 => ?_) (fun c15 => ?_)
    · refine lv_aload_n hE.1 hE.2.1 dX11_failing_33 rfl (lv_at hl 0 rfl) ?_
      refine rg_VI (As := []) (rest := []) hE hml hH mc_X11_215 (c_fail l z G hG iv1 jv) hG.1.1 hG.1.2 (by decide) rfl ⟨Nat.le_of_ble_eq_true rfl, Nat.le_of_ble_eq_true rfl⟩ rfl hl.1 (by simp [Value.category]) dX11_failing_34 ⟨Nat.le_of_ble_eq_true rfl, Nat.le_of_ble_eq_true rfl⟩ (fun r34 G34 iv34 jv34 H locs hp34 hH => ?_)
      obtain ⟨rfl, rfl, rfl, rfl⟩ := hp34
      exact rg_iret hE hr rfl hlk hH ⟨rfl, rfl, by rw [show spFailing a (nI P) x = no 1 a by rw [spFailing, onK_t hPl (by omega), ← hTq, ← htab, onM_f (m1_lt c15).1 (inI_lt (m1_lt c15).2)]]; exact ⟨rfl, rfl, hS.c0⟩, hF0.tr up0_M⟩ dX11_failing_37
    · refine lv_iload_n hE.1 hE.2.1 dX11_failing_18 rfl (lv_at hl 2 rfl) ?_
      refine lv_aload_n hE.1 hE.2.1 dX11_failing_19 rfl (lv_at hl 0 rfl) ?_
      refine rm_getr hE hH hG fl_X11_23 rfl (by decide) dX11_failing_20 ?_
      refine lv_aload_n hE.1 hE.2.1 dX11_failing_23 rfl (lv_at hl 0 rfl) ?_
      refine rm_getr hE hH hG fl_X11_44 rfl (by decide) dX11_failing_24 ?_
      refine lv_iload_n hE.1 hE.2.1 dX11_failing_27 rfl (lv_at hl 1 rfl) ?_
      refine rm_iald hE hH hG (k := 16) (by decide) rfl (N := 12) rfl (n := P) (by omega) (v := nI T) (h16) dX11_failing_28 ?_
      refine rm_iald hE hH hG (k := 9) (by decide) rfl (N := 6) rfl (n := T) (by omega) (v := nI (tR tab)) (h9) dX11_failing_29 ?_
      refine lv_icmp_lt (tgt := 38) hE.1 hE.2.1 dX11_failing_30 (by decide) (fun c30 => ?_) (fun c30 => ?_)
      · obtain ⟨q, hqx, hqs⟩ : ∃ q : Option Nat, x = oI q ∧ ∀ f : Option Nat → RS, onM a x (tR tab) f = f q := by
          by_cases h : x = -1
          · exact ⟨none, h, fun f => onM_n h⟩
          · obtain ⟨k, hk3, rfl⟩ := m1_in (by omega) c15 c30 h
            exact ⟨some k, rfl, fun f => onM_s hk3 (by omega)⟩
        refine lv_iconst (v := nI 0) hE.1 hE.2.1 dX11_failing_38 (by decide) ?_
        refine lv_istore_n (lv' := [(3, .int (nI 0)), (0, .ref (G.ad 0)), (1, .int (nI P)), (2, .int (x))]) hE.1 hE.2.1 dX11_failing_39 rfl hl (by decide) rfl (fun ls hl => ?_)
        refine rg_loop (σ := Nat) (nL := 4) (fun (c : Nat) => tC tab - c) (fun (c : Nat) => [(0, .ref (G.ad 0)), (1, .int (nI P)), (2, .int (x)), (3, .int (nI c))]) (fun (c : Nat) => G) (fun (c : Nat) => iv1) (fun (c : Nat) => jv) (fun (c : Nat) => c ≤ tC tab ∧ ∀ j, j < c → pFail tab g x j = false) ?_ (0) ⟨Nat.zero_le _, fun j hj => absurd hj (Nat.not_lt_zero j)⟩ (lv_sub hl [1, 2, 3, 0] rfl) hH
        rintro c H locs ls ⟨hcC, hno⟩ hl hH ih40
        try dsimp only at hl hH ih40
        refine lv_iload_n hE.1 hE.2.1 dX11_failing_40 rfl (lv_at hl 3 rfl) ?_
        refine lv_aload_n hE.1 hE.2.1 dX11_failing_41 rfl (lv_at hl 0 rfl) ?_
        refine lv_aload_n hE.1 hE.2.1 dX11_failing_42 rfl (lv_at hl 0 rfl) ?_
        refine rm_getr hE hH hG fl_X11_44 rfl (by decide) dX11_failing_43 ?_
        refine lv_iload_n hE.1 hE.2.1 dX11_failing_46 rfl (lv_at hl 1 rfl) ?_
        refine rm_iald hE hH hG (k := 16) (by decide) rfl (N := 12) rfl (n := P) (by omega) (v := nI T) (h16) dX11_failing_47 ?_
        refine rg_VI (As := [.int (nI T)]) (rest := [.int (nI c)]) hE hml hH mc_X11_205 (c_casesOf l z G hG iv1 jv T (tm tab) hT hm5 (tf tab) h8 h10) hG.1.1 hG.1.2 (by decide) rfl ⟨Nat.le_of_ble_eq_true rfl, Nat.le_of_ble_eq_true rfl⟩ rfl hl.1 (by simp [Value.category]) dX11_failing_48 ⟨Nat.le_of_ble_eq_true rfl, Nat.le_of_ble_eq_true rfl⟩ (fun r48 G48 iv48 jv48 H locs hp48 hH => ?_)
        obtain ⟨rfl, rfl, rfl, rfl⟩ := hp48
        refine rn_as (v' := nI (tC tab)) rfl ?_
        refine rn_icmp_ge (tgt := 72) hE dX11_failing_51 (by decide) (by omega) (by omega) (fun c51 => ?_) (fun c51 => ?_)
        · refine lv_iconst (v := -1) hE.1 hE.2.1 dX11_failing_72 (by decide) ?_
          exact rg_iret hE hr rfl hlk hH ⟨rfl, rfl, by rw [show spFailing a (nI P) x = ok (-1) a by rw [spFailing, onK_t hPl (by omega), ← hTq, ← htab, hqs, ← hgq, ← hqx, fnd_none (fun j hj => hno j (by omega))]; rfl]; exact ⟨h00, rfl, hS⟩, hF0⟩ dX11_failing_73
        · refine lv_aload_n hE.1 hE.2.1 dX11_failing_54 rfl (lv_at hl 0 rfl) ?_
          refine lv_iload_n hE.1 hE.2.1 dX11_failing_55 rfl (lv_at hl 1 rfl) ?_
          refine lv_iload_n hE.1 hE.2.1 dX11_failing_56 rfl (lv_at hl 2 rfl) ?_
          refine lv_iload_n hE.1 hE.2.1 dX11_failing_57 rfl (lv_at hl 3 rfl) ?_
          refine rg_VI (As := [.int (nI P), .int (x), .int (nI c)]) (rest := []) hE hml hH mc_X11_322 (c_isFailed l z G hG iv1 jv T hT tab hFT P hP g hg hPR h16 x c (by omega)) hG.1.1 hG.1.2 (by decide) rfl ⟨Nat.le_of_ble_eq_true rfl, Nat.le_of_ble_eq_true rfl⟩ rfl hl.1 (by simp [Value.category]) dX11_failing_58 ⟨Nat.le_of_ble_eq_true rfl, Nat.le_of_ble_eq_true rfl⟩ (fun r58 G58 iv58 jv58 H locs hp58 hH => ?_)
          obtain ⟨rfl, rfl, rfl, rfl⟩ := hp58
          refine rn_ifb_eq (tgt := 66) hE dX11_failing_61 (by decide) (fun c61 => ?_) (fun c61 => ?_)
          · refine lv_iinc (v := nI (c + 1)) (lv' := [(3, .int (nI (c + 1))), (0, .ref (G.ad 0)), (1, .int (nI P)), (2, .int (x))]) hE.1 hE.2.1 dX11_failing_66 hl (k := 3) rfl (nI_1 _) (by decide) rfl (fun ls hl => ?_)
            refine lv_goto (tgt := 40) hE.1 hE.2.1 dX11_failing_69 (by decide) ?_
            exact ih40 (c + 1) _ _ _ (by omega) ⟨by omega, fun j hj => by
              by_cases hjc : j = c
              · subst hjc; exact c61
              · exact hno j (by omega)⟩ (lv_sub hl [1, 2, 3, 0] rfl) hH
          · refine lv_iload_n hE.1 hE.2.1 dX11_failing_64 rfl (lv_at hl 3 rfl) ?_
            exact rg_iret hE hr rfl hlk hH ⟨rfl, rfl, by rw [show spFailing a (nI P) x = ok (nI c) a by rw [spFailing, onK_t hPl (by omega), ← hTq, ← htab, hqs, ← hgq, ← hqx, fnd_some (k := c) (by omega) c61 hno]; rfl]; exact ⟨h00, rfl, hS⟩, hF0⟩ dX11_failing_65
      · refine lv_aload_n hE.1 hE.2.1 dX11_failing_33 rfl (lv_at hl 0 rfl) ?_
        refine rg_VI (As := []) (rest := []) hE hml hH mc_X11_215 (c_fail l z G hG iv1 jv) hG.1.1 hG.1.2 (by decide) rfl ⟨Nat.le_of_ble_eq_true rfl, Nat.le_of_ble_eq_true rfl⟩ rfl hl.1 (by simp [Value.category]) dX11_failing_34 ⟨Nat.le_of_ble_eq_true rfl, Nat.le_of_ble_eq_true rfl⟩ (fun r34 G34 iv34 jv34 H locs hp34 hH => ?_)
        obtain ⟨rfl, rfl, rfl, rfl⟩ := hp34
        exact rg_iret hE hr rfl hlk hH ⟨rfl, rfl, by rw [show spFailing a (nI P) x = no 1 a by rw [spFailing, onK_t hPl (by omega), ← hTq, ← htab, onM_f (m1_ge (by omega) c30) (inI_ge (nlt_le c30))]]; exact ⟨rfl, rfl, hS.c0⟩, hF0.tr up0_M⟩ dX11_failing_37
set_option maxRecDepth 100000 in
set_option maxHeartbeats 4000000 in
theorem c_changed (l : Launch) (z : ZK) (G : GW) (hG : isM G) (iv : IV) (jv : JV) (a : AS) (hS : MSt iv a) (px qx wx : Int32) : cI l z yX11_changed cX11_changed 9 (some .int) 2 52 0 0 [.ref (G.ad 0), .int (px), .int (qx), .int (wx)] G iv jv (fun r G' iv' jv' => G = G' ∧ jv = jv' ∧ (iv' 0 0 = nI (spChanged a px qx wx).1 ∧ r = (spChanged a px qx wx).2.1 ∧ MSt iv' (spChanged a px qx wx).2.2) ∧ Fr iv iv' pM) := by
  intro sz
  refine rg_entry rfl (Nat.le_of_ble_eq_true rfl) ?_
  intro pq eq sq mq bq methq cq ls hE hr hlk hml hnm hl hsz hH
  have hl : lv_has ls 9 [(0, .ref (G.ad 0)), (1, .int (px)), (2, .int (qx)), (3, .int (wx))] := hl
  refine lv_aload_n hE.1 hE.2.1 dX11_changed_0 rfl (lv_at hl 0 rfl) ?_
  refine lv_iconst (v := nI 0) hE.1 hE.2.1 dX11_changed_1 (by decide) ?_
  refine rm_puti hE hH hG fl_X11_96 rfl fn_X11_0 (v := nI 0) dX11_changed_2 (fun H locs hH => ?_)
  have hF0 : Fr iv (up2 iv 0 0 (nI 0)) pM := up0_M
  have hS : MSt (up2 iv 0 0 (nI 0)) a := hS.c0
  have h00 : (up2 iv 0 0 (nI 0)) 0 0 = nI 0 := rfl
  generalize up2 iv 0 0 (nI 0) = iv1 at hH hS hF0 h00
  have hS6 := hS.2.2.1.2.1
  have hS12 := hS.2.2.2.1.2.1
  have hS3 := hS.1.2.1
  have hSo := hS.2.2.2.2.2.1
  refine lv_aload_n hE.1 hE.2.1 dX11_changed_5 rfl (lv_at hl 0 rfl) ?_
  refine lv_iload_n hE.1 hE.2.1 dX11_changed_6 rfl (lv_at hl 1 rfl) ?_
  refine rg_VI (As := [.int (px)]) (rest := []) hE hml hH mc_X11_316 (c_isProgram l z G hG iv1 jv px (aP a).length hS.2.2.2.1.1) hG.1.1 hG.1.2 (by decide) rfl ⟨Nat.le_of_ble_eq_true rfl, Nat.le_of_ble_eq_true rfl⟩ rfl hl.1 (by simp [Value.category]) dX11_changed_7 ⟨Nat.le_of_ble_eq_true rfl, Nat.le_of_ble_eq_true rfl⟩ (fun r7 G7 iv7 jv7 H locs hp7 hH => ?_)
  obtain ⟨rfl, rfl, rfl, rfl⟩ := hp7
  refine rn_ifb_eq (tgt := 30) hE dX11_changed_10 (by decide) (fun c10 => ?_) (fun c10 => ?_)
  · refine lv_aload_n hE.1 hE.2.1 dX11_changed_30 rfl (lv_at hl 0 rfl) ?_
    refine rg_VI (As := []) (rest := []) hE hml hH mc_X11_215 (c_fail l z G hG iv1 jv) hG.1.1 hG.1.2 (by decide) rfl ⟨Nat.le_of_ble_eq_true rfl, Nat.le_of_ble_eq_true rfl⟩ rfl hl.1 (by simp [Value.category]) dX11_changed_31 ⟨Nat.le_of_ble_eq_true rfl, Nat.le_of_ble_eq_true rfl⟩ (fun r31 G31 iv31 jv31 H locs hp31 hH => ?_)
    obtain ⟨rfl, rfl, rfl, rfl⟩ := hp31
    exact rg_iret hE hr rfl hlk hH ⟨rfl, rfl, by rw [show spChanged a px qx wx = no 1 a by rw [spChanged, onK_f c10]]; exact ⟨rfl, rfl, hS.c0⟩, hF0.tr up0_M⟩ dX11_changed_34
  · obtain ⟨P, hPl, rfl⟩ := inI_of (by omega) c10
    have hP : P < 12 := by omega
    obtain ⟨T, hTq⟩ : ∃ x, x = (aPg a P).1 := ⟨_, rfl⟩
    obtain ⟨g, hgq⟩ : ∃ x, x = (aPg a P).2 := ⟨_, rfl⟩
    have h16 : iv1 16 P = nI T := by rw [hTq]; exact (hS.2.2.2.1.2.2 P hPl).1
    have hTl : T < (aT a).length := by rw [hTq]; exact (hS.2.2.2.1.2.2 P hPl).2.1
    have hT : T < 6 := by omega
    obtain ⟨tab, htab⟩ : ∃ x, x = aTb a T := ⟨_, rfl⟩
    have hFT : FT iv1 T tab := by rw [htab]; exact (hS.2.2.1.2.2.1 T hTl).1
    have hTW : tabW tab := by rw [htab]; exact (hS.2.2.1.2.2.1 T hTl).2.1
    have hLD : LD iv1 T tab := by rw [htab]; exact (hS.2.2.1.2.2.1 T hTl).2.2
    have hB := hFT.1
    have hk := hFT.2.1
    have hA := hFT.2.2
    have h8 := hB.f.1
    have h10 := hB.f.2.1
    have h9 := hB.f.2.2.1
    have h13 := hB.f.2.2.2.1
    have h14 := hB.f.2.2.2.2.1
    have hm5 := hk.2.1
    have hm1 := hk.1
    have hC := hk.2.2.2.1
    have hR40 := hk.2.2.2.2.2.2.1
    have hPR : PRG iv1 P g := by rw [hgq]; exact (hS.2.2.2.1.2.2 P hPl).2.2.1
    have hg : prgOK tab g := by rw [hgq, htab, hTq]; exact (hS.2.2.2.1.2.2 P hPl).2.2.2
    have hO6 := hk.2.2.2.2.2.1
    refine lv_aload_n hE.1 hE.2.1 dX11_changed_13 rfl (lv_at hl 0 rfl) ?_
    refine lv_iload_n hE.1 hE.2.1 dX11_changed_14 rfl (lv_at hl 2 rfl) ?_
    refine rg_VI (As := [.int (qx)]) (rest := []) hE hml hH mc_X11_316 (c_isProgram l z G hG iv1 jv qx (aP a).length hS.2.2.2.1.1) hG.1.1 hG.1.2 (by decide) rfl ⟨Nat.le_of_ble_eq_true rfl, Nat.le_of_ble_eq_true rfl⟩ rfl hl.1 (by simp [Value.category]) dX11_changed_15 ⟨Nat.le_of_ble_eq_true rfl, Nat.le_of_ble_eq_true rfl⟩ (fun r15 G15 iv15 jv15 H locs hp15 hH => ?_)
    obtain ⟨rfl, rfl, rfl, rfl⟩ := hp15
    refine rn_ifb_eq (tgt := 30) hE dX11_changed_18 (by decide) (fun c18 => ?_) (fun c18 => ?_)
    · refine lv_aload_n hE.1 hE.2.1 dX11_changed_30 rfl (lv_at hl 0 rfl) ?_
      refine rg_VI (As := []) (rest := []) hE hml hH mc_X11_215 (c_fail l z G hG iv1 jv) hG.1.1 hG.1.2 (by decide) rfl ⟨Nat.le_of_ble_eq_true rfl, Nat.le_of_ble_eq_true rfl⟩ rfl hl.1 (by simp [Value.category]) dX11_changed_31 ⟨Nat.le_of_ble_eq_true rfl, Nat.le_of_ble_eq_true rfl⟩ (fun r31 G31 iv31 jv31 H locs hp31 hH => ?_)
      obtain ⟨rfl, rfl, rfl, rfl⟩ := hp31
      exact rg_iret hE hr rfl hlk hH ⟨rfl, rfl, by rw [show spChanged a (nI P) qx wx = no 1 a by rw [spChanged, onK_t hPl (by omega), onK_f c18]]; exact ⟨rfl, rfl, hS.c0⟩, hF0.tr up0_M⟩ dX11_changed_34
    · obtain ⟨Q, hQl, rfl⟩ := inI_of (by omega) c18
      have hQ : Q < 12 := by omega
      obtain ⟨U, hUq⟩ : ∃ x, x = (aPg a Q).1 := ⟨_, rfl⟩
      obtain ⟨f, hfq⟩ : ∃ x, x = (aPg a Q).2 := ⟨_, rfl⟩
      have hU16 : iv1 16 Q = nI U := by rw [hUq]; exact (hS.2.2.2.1.2.2 Q hQl).1
      have hUl : U < (aT a).length := by rw [hUq]; exact (hS.2.2.2.1.2.2 Q hQl).2.1
      have hQR : PRG iv1 Q f := by rw [hfq]; exact (hS.2.2.2.1.2.2 Q hQl).2.2.1
      have hf0 : prgOK (aTb a U) f := by rw [hfq, hUq]; exact (hS.2.2.2.1.2.2 Q hQl).2.2.2
      refine lv_iload_n hE.1 hE.2.1 dX11_changed_21 rfl (lv_at hl 3 rfl) ?_
      refine lv_if_lt (tgt := 30) hE.1 hE.2.1 dX11_changed_22 (by decide) (fun c22 => ?_) (fun c22 => ?_)
      · refine lv_aload_n hE.1 hE.2.1 dX11_changed_30 rfl (lv_at hl 0 rfl) ?_
        refine rg_VI (As := []) (rest := []) hE hml hH mc_X11_215 (c_fail l z G hG iv1 jv) hG.1.1 hG.1.2 (by decide) rfl ⟨Nat.le_of_ble_eq_true rfl, Nat.le_of_ble_eq_true rfl⟩ rfl hl.1 (by simp [Value.category]) dX11_changed_31 ⟨Nat.le_of_ble_eq_true rfl, Nat.le_of_ble_eq_true rfl⟩ (fun r31 G31 iv31 jv31 H locs hp31 hH => ?_)
        obtain ⟨rfl, rfl, rfl, rfl⟩ := hp31
        exact rg_iret hE hr rfl hlk hH ⟨rfl, rfl, by rw [show spChanged a (nI P) (nI Q) wx = no 1 a by rw [spChanged, onK_t hPl (by omega), onK_t hQl (by omega), onK_f (inI_lt c22)]]; exact ⟨rfl, rfl, hS.c0⟩, hF0.tr up0_M⟩ dX11_changed_34
      · refine lv_iload_n hE.1 hE.2.1 dX11_changed_25 rfl (lv_at hl 3 rfl) ?_
        refine lv_iconst (v := nI 2) hE.1 hE.2.1 dX11_changed_26 (by decide) ?_
        refine lv_icmp_le (tgt := 35) hE.1 hE.2.1 dX11_changed_27 (by decide) (fun c27 => ?_) (fun c27 => ?_)
        · obtain ⟨w, hw, rfl⟩ := inI_of (by decide) (inI_le (by decide) c22 c27)
          refine lv_aload_n hE.1 hE.2.1 dX11_changed_35 rfl (lv_at hl 0 rfl) ?_
          refine rm_getr hE hH hG fl_X11_44 rfl (by decide) dX11_changed_36 ?_
          refine lv_iload_n hE.1 hE.2.1 dX11_changed_39 rfl (lv_at hl 1 rfl) ?_
          refine rm_iald hE hH hG (k := 16) (by decide) rfl (N := 12) rfl (n := P) (by omega) (v := nI T) (h16) dX11_changed_40 ?_
          refine lv_istore (lv' := [(4, .int (nI T)), (0, .ref (G.ad 0)), (1, .int (nI P)), (2, .int (nI Q)), (3, .int (nI w))]) hE.1 hE.2.1 dX11_changed_41 hl (by decide) rfl (fun ls hl => ?_)
          refine lv_iload hE.1 hE.2.1 dX11_changed_43 (lv_at hl 0 rfl) ?_
          refine lv_aload_n hE.1 hE.2.1 dX11_changed_45 rfl (lv_at hl 1 rfl) ?_
          refine rm_getr hE hH hG fl_X11_44 rfl (by decide) dX11_changed_46 ?_
          refine lv_iload_n hE.1 hE.2.1 dX11_changed_49 rfl (lv_at hl 3 rfl) ?_
          refine rm_iald hE hH hG (k := 16) (by decide) rfl (N := 12) rfl (n := Q) (by omega) (v := nI U) (hU16) dX11_changed_50 ?_
          refine rn_icmp_eq (tgt := 61) hE dX11_changed_51 (by decide) (by omega) (by omega) (fun c51 => ?_) (fun c51 => ?_)
          · subst c51
            have hf : prgOK tab f := by rw [htab]; exact hf0
            refine lv_iconst (v := nI 0) hE.1 hE.2.1 dX11_changed_61 (by decide) ?_
            refine lv_istore (lv' := [(5, .int (nI 0)), (4, .int (nI T)), (0, .ref (G.ad 0)), (1, .int (nI P)), (2, .int (nI Q)), (3, .int (nI w))]) hE.1 hE.2.1 dX11_changed_62 hl (by decide) rfl (fun ls hl => ?_)
            refine lv_iconst (v := nI 0) hE.1 hE.2.1 dX11_changed_64 (by decide) ?_
            refine lv_istore (lv' := [(6, .int (nI 0)), (5, .int (nI 0)), (4, .int (nI T)), (0, .ref (G.ad 0)), (1, .int (nI P)), (2, .int (nI Q)), (3, .int (nI w))]) hE.1 hE.2.1 dX11_changed_65 hl (by decide) rfl (fun ls hl => ?_)
            refine lv_iconst (v := -1) hE.1 hE.2.1 dX11_changed_67 (by decide) ?_
            refine lv_istore (lv' := [(7, .int (-1)), (6, .int (nI 0)), (5, .int (nI 0)), (4, .int (nI T)), (0, .ref (G.ad 0)), (1, .int (nI P)), (2, .int (nI Q)), (3, .int (nI w))]) hE.1 hE.2.1 dX11_changed_68 hl (by decide) rfl (fun ls hl => ?_)
            refine lv_iconst (v := nI 0) hE.1 hE.2.1 dX11_changed_70 (by decide) ?_
            refine lv_istore (lv' := [(8, .int (nI 0)), (7, .int (-1)), (6, .int (nI 0)), (5, .int (nI 0)), (4, .int (nI T)), (0, .ref (G.ad 0)), (1, .int (nI P)), (2, .int (nI Q)), (3, .int (nI w))]) hE.1 hE.2.1 dX11_changed_71 hl (by decide) rfl (fun ls hl => ?_)
            refine rg_loop (σ := Nat) (nL := 9) (fun (c : Nat) => tC tab - c) (fun (c : Nat) => [(0, .ref (G.ad 0)), (1, .int (nI P)), (2, .int (nI Q)), (3, .int (nI w)), (4, .int (nI T)), (5, .int (nI (cntN (pDif tab g f) c))), (6, .int (nI (cntN (fun c => pDif tab g f c && (frow tab c).isNone) c))), (7, .int (oI (fnd (pDif tab g f) c))), (8, .int (nI c))]) (fun (c : Nat) => G) (fun (c : Nat) => iv1) (fun (c : Nat) => jv) (fun (c : Nat) => c ≤ tC tab) ?_ (0) (Nat.zero_le _) (lv_sub hl [5, 6, 7, 8, 4, 3, 2, 1, 0] rfl) hH
            rintro c H locs ls hcC hl hH ih73
            try dsimp only at hl hH ih73
            refine lv_iload hE.1 hE.2.1 dX11_changed_73 (lv_at hl 8 rfl) ?_
            refine lv_aload_n hE.1 hE.2.1 dX11_changed_75 rfl (lv_at hl 0 rfl) ?_
            refine lv_iload hE.1 hE.2.1 dX11_changed_76 (lv_at hl 4 rfl) ?_
            refine rg_VI (As := [.int (nI T)]) (rest := [.int (nI c)]) hE hml hH mc_X11_205 (c_casesOf l z G hG iv1 jv T (tm tab) hT hm5 (tf tab) h8 h10) hG.1.1 hG.1.2 (by decide) rfl ⟨Nat.le_of_ble_eq_true rfl, Nat.le_of_ble_eq_true rfl⟩ rfl hl.1 (by simp [Value.category]) dX11_changed_78 ⟨Nat.le_of_ble_eq_true rfl, Nat.le_of_ble_eq_true rfl⟩ (fun r78 G78 iv78 jv78 H locs hp78 hH => ?_)
            obtain ⟨rfl, rfl, rfl, rfl⟩ := hp78
            refine rn_as (v' := nI (tC tab)) rfl ?_
            refine rn_icmp_ge (tgt := 151) hE dX11_changed_81 (by decide) (by omega) (by omega) (fun c81 => ?_) (fun c81 => ?_)
            · have hce : c = tC tab := by omega
              subst hce
              refine lv_iload_n hE.1 hE.2.1 dX11_changed_151 rfl (lv_at hl 3 rfl) ?_
              refine rn_if_ne (tgt := 160) hE dX11_changed_152 (by decide) (by omega) (fun c152 => ?_) (fun c152 => ?_)
              · refine lv_iload_n hE.1 hE.2.1 dX11_changed_160 rfl (lv_at hl 3 rfl) ?_
                refine lv_iconst (v := nI 1) hE.1 hE.2.1 dX11_changed_161 (by decide) ?_
                refine rn_icmp_ne (tgt := 170) hE dX11_changed_162 (by decide) (by omega) (by omega) (fun c162 => ?_) (fun c162 => ?_)
                · refine lv_iload hE.1 hE.2.1 dX11_changed_170 (lv_at hl 7 rfl) ?_
                  exact rg_iret hE hr rfl hlk hH ⟨rfl, rfl, by rw [show spChanged a (nI P) (nI Q) (nI w) = ok (oI (fnd (pDif tab g f) (tC tab))) a by rw [spChanged, onK_t hPl (by omega), onK_t hQl (by omega), onK_t hw (by decide), ← hTq, ← hUq, ← hgq, ← hfq, if_neg (by simp), ← htab, if_neg c152, if_neg c162]]; exact ⟨h00, rfl, hS⟩, hF0⟩ dX11_changed_172
                · refine lv_iload hE.1 hE.2.1 dX11_changed_165 (lv_at hl 6 rfl) ?_
                  refine lv_goto (tgt := 172) hE.1 hE.2.1 dX11_changed_167 (by decide) ?_
                  exact rg_iret hE hr rfl hlk hH ⟨rfl, rfl, by rw [show spChanged a (nI P) (nI Q) (nI w) = ok (nI (cntN (fun c => pDif tab g f c && (frow tab c).isNone) (tC tab))) a by rw [spChanged, onK_t hPl (by omega), onK_t hQl (by omega), onK_t hw (by decide), ← hTq, ← hUq, ← hgq, ← hfq, if_neg (by simp), ← htab, if_neg c152, if_pos c162]]; exact ⟨h00, rfl, hS⟩, hF0⟩ dX11_changed_172
              · refine lv_iload hE.1 hE.2.1 dX11_changed_155 (lv_at hl 5 rfl) ?_
                refine lv_goto (tgt := 172) hE.1 hE.2.1 dX11_changed_157 (by decide) ?_
                exact rg_iret hE hr rfl hlk hH ⟨rfl, rfl, by rw [show spChanged a (nI P) (nI Q) (nI w) = ok (nI (cntN (pDif tab g f) (tC tab))) a by rw [spChanged, onK_t hPl (by omega), onK_t hQl (by omega), onK_t hw (by decide), ← hTq, ← hUq, ← hgq, ← hfq, if_neg (by simp), ← htab, if_pos c152]]; exact ⟨h00, rfl, hS⟩, hF0⟩ dX11_changed_172
            · have hcl : c < tC tab := by omega
              have hp1 := pAns_lt hg (c := c)
              have hp2 := pAns_lt hf (c := c)
              refine lv_aload_n hE.1 hE.2.1 dX11_changed_84 rfl (lv_at hl 0 rfl) ?_
              refine lv_iload_n hE.1 hE.2.1 dX11_changed_85 rfl (lv_at hl 1 rfl) ?_
              refine lv_iload hE.1 hE.2.1 dX11_changed_86 (lv_at hl 8 rfl) ?_
              refine rg_VI (As := [.int (nI P), .int (nI c)]) (rest := []) hE hml hH mc_X11_319 (c_answers0 l z G hG iv1 jv T hT tab hk hB P hP g hg hPR h16 c (by omega)) hG.1.1 hG.1.2 (by decide) rfl ⟨Nat.le_of_ble_eq_true rfl, Nat.le_of_ble_eq_true rfl⟩ rfl hl.1 (by simp [Value.category]) dX11_changed_88 ⟨Nat.le_of_ble_eq_true rfl, Nat.le_of_ble_eq_true rfl⟩ (fun r88 G88 iv88 jv88 H locs hp88 hH => ?_)
              obtain ⟨rfl, rfl, rfl, rfl⟩ := hp88
              refine lv_aload_n hE.1 hE.2.1 dX11_changed_91 rfl (lv_at hl 0 rfl) ?_
              refine lv_iload_n hE.1 hE.2.1 dX11_changed_92 rfl (lv_at hl 2 rfl) ?_
              refine lv_iload hE.1 hE.2.1 dX11_changed_93 (lv_at hl 8 rfl) ?_
              refine rg_VI (As := [.int (nI Q), .int (nI c)]) (rest := [.int (nI (pAns tab g c))]) hE hml hH mc_X11_319 (c_answers0 l z G hG iv1 jv T hT tab hk hB Q hQ f hf hQR hU16 c (by omega)) hG.1.1 hG.1.2 (by decide) rfl ⟨Nat.le_of_ble_eq_true rfl, Nat.le_of_ble_eq_true rfl⟩ rfl hl.1 (by simp [Value.category]) dX11_changed_95 ⟨Nat.le_of_ble_eq_true rfl, Nat.le_of_ble_eq_true rfl⟩ (fun r95 G95 iv95 jv95 H locs hp95 hH => ?_)
              obtain ⟨rfl, rfl, rfl, rfl⟩ := hp95
              refine rn_icmp_ne (tgt := 104) hE dX11_changed_98 (by decide) (by omega) (by omega) (fun c98 => ?_) (fun c98 => ?_)
              · have hpd : pDif tab g f c = true := by simp [pDif, c98]
                refine lv_iinc (v := nI (cntN (pDif tab g f) c + 1)) (lv' := [(5, .int (nI (cntN (pDif tab g f) c + 1))), (0, .ref (G.ad 0)), (1, .int (nI P)), (2, .int (nI Q)), (3, .int (nI w)), (4, .int (nI T)), (6, .int (nI (cntN (fun c => pDif tab g f c && (frow tab c).isNone) c))), (7, .int (oI (fnd (pDif tab g f) c))), (8, .int (nI c))]) hE.1 hE.2.1 dX11_changed_104 hl (k := 5) rfl (nI_1 _) (by decide) rfl (fun ls hl => ?_)
                refine lv_iload hE.1 hE.2.1 dX11_changed_107 (lv_at hl 6 rfl) ?_
                refine lv_aload_n hE.1 hE.2.1 dX11_changed_109 rfl (lv_at hl 1 rfl) ?_
                refine rm_getr hE hH hG fl_X11_41 rfl (by decide) dX11_changed_110 ?_
                refine lv_sipush (v := nI 400) hE.1 hE.2.1 dX11_changed_113 (by decide) ?_
                refine lv_iload hE.1 hE.2.1 dX11_changed_116 (lv_at hl 5 rfl) ?_
                refine rn_imul hE dX11_changed_118 ?_
                refine lv_iload hE.1 hE.2.1 dX11_changed_119 (lv_at hl 8 rfl) ?_
                refine rn_iadd hE dX11_changed_121 ?_
                refine rm_iald hE hH hG (k := 15) (by decide) rfl (N := 2400) rfl (n := 400 * T + c) (by omega) (v := oI (frow tab c)) (hA c hcl) dX11_changed_122 ?_
                refine lv_iconst (v := -1) hE.1 hE.2.1 dX11_changed_123 (by decide) ?_
                refine rb_raw_ne (t1 := 131) (t2 := 132) hE dX11_changed_124 (by decide) dX11_changed_127 dX11_changed_128 (by decide) dX11_changed_131 rfl ?_
                refine rn_as (v' := nI (if (frow tab c).isNone then 1 else 0)) (bI_none (fun k hk2 => by have := frow_lt hk2; omega)) ?_
                refine rn_iadd hE dX11_changed_132 ?_
                refine lv_istore (lv' := [(6, .int (nI (cntN (fun c => pDif tab g f c && (frow tab c).isNone) c + (if (frow tab c).isNone then 1 else 0)))), (5, .int (nI (cntN (pDif tab g f) c + 1))), (0, .ref (G.ad 0)), (1, .int (nI P)), (2, .int (nI Q)), (3, .int (nI w)), (4, .int (nI T)), (7, .int (oI (fnd (pDif tab g f) c))), (8, .int (nI c))]) hE.1 hE.2.1 dX11_changed_133 hl (by decide) rfl (fun ls hl => ?_)
                refine lv_iload hE.1 hE.2.1 dX11_changed_135 (lv_at hl 7 rfl) ?_
                refine lv_iconst (v := -1) hE.1 hE.2.1 dX11_changed_137 (by decide) ?_
                refine lv_icmp_ne (tgt := 145) hE.1 hE.2.1 dX11_changed_138 (by decide) (fun c138 => ?_) (fun c138 => ?_)
                · obtain ⟨q, hq⟩ := oI_som c138
                  have hl : lv_has ls 9 [(6, .int (nI (cntN (fun c => pDif tab g f c && (frow tab c).isNone) (c + 1)))), (5, .int (nI (cntN (pDif tab g f) (c + 1)))), (0, .ref (G.ad 0)), (1, .int (nI P)), (2, .int (nI Q)), (3, .int (nI w)), (4, .int (nI T)), (7, .int (oI (fnd (pDif tab g f) (c + 1)))), (8, .int (nI c))] := by rw [cntN, cntN, fnd_k hq]; rw [hq] at hl; simp only [hpd, Bool.true_and]; exact hl
                  refine lv_iinc (v := nI (c + 1)) (lv' := [(8, .int (nI (c + 1))), (6, .int (nI (cntN (fun c => pDif tab g f c && (frow tab c).isNone) (c + 1)))), (5, .int (nI (cntN (pDif tab g f) (c + 1)))), (0, .ref (G.ad 0)), (1, .int (nI P)), (2, .int (nI Q)), (3, .int (nI w)), (4, .int (nI T)), (7, .int (oI (fnd (pDif tab g f) (c + 1))))]) hE.1 hE.2.1 dX11_changed_145 hl (k := 8) rfl (nI_1 _) (by decide) rfl (fun ls hl => ?_)
                  refine lv_goto (tgt := 73) hE.1 hE.2.1 dX11_changed_148 (by decide) ?_
                  exact ih73 (c + 1) _ _ _ (by omega) (by omega) (lv_sub hl [3, 4, 5, 6, 7, 2, 1, 8, 0] rfl) hH
                · rw [oI_m1 (fun k hk2 => by have := (fnd_lt hk2).1; omega)] at c138
                  refine lv_iload hE.1 hE.2.1 dX11_changed_141 (lv_at hl 8 rfl) ?_
                  refine lv_istore (lv' := [(7, .int (nI c)), (6, .int (nI (cntN (fun c => pDif tab g f c && (frow tab c).isNone) c + (if (frow tab c).isNone then 1 else 0)))), (5, .int (nI (cntN (pDif tab g f) c + 1))), (0, .ref (G.ad 0)), (1, .int (nI P)), (2, .int (nI Q)), (3, .int (nI w)), (4, .int (nI T)), (8, .int (nI c))]) hE.1 hE.2.1 dX11_changed_143 hl (by decide) rfl (fun ls hl => ?_)
                  have hl : lv_has ls 9 [(7, .int (oI (fnd (pDif tab g f) (c + 1)))), (6, .int (nI (cntN (fun c => pDif tab g f c && (frow tab c).isNone) (c + 1)))), (5, .int (nI (cntN (pDif tab g f) (c + 1)))), (0, .ref (G.ad 0)), (1, .int (nI P)), (2, .int (nI Q)), (3, .int (nI w)), (4, .int (nI T)), (8, .int (nI c))] := by rw [cntN, cntN, fnd_t hpd c138]; simp only [hpd, Bool.true_and]; exact hl
                  refine lv_iinc (v := nI (c + 1)) (lv' := [(8, .int (nI (c + 1))), (7, .int (oI (fnd (pDif tab g f) (c + 1)))), (6, .int (nI (cntN (fun c => pDif tab g f c && (frow tab c).isNone) (c + 1)))), (5, .int (nI (cntN (pDif tab g f) (c + 1)))), (0, .ref (G.ad 0)), (1, .int (nI P)), (2, .int (nI Q)), (3, .int (nI w)), (4, .int (nI T))]) hE.1 hE.2.1 dX11_changed_145 hl (k := 8) rfl (nI_1 _) (by decide) rfl (fun ls hl => ?_)
                  refine lv_goto (tgt := 73) hE.1 hE.2.1 dX11_changed_148 (by decide) ?_
                  exact ih73 (c + 1) _ _ _ (by omega) (by omega) (lv_sub hl [4, 5, 6, 7, 8, 3, 2, 1, 0] rfl) hH
              · have hpd : pDif tab g f c = false := by simp [pDif, c98]
                refine lv_goto (tgt := 145) hE.1 hE.2.1 dX11_changed_101 (by decide) ?_
                have hl : lv_has ls 9 [(0, .ref (G.ad 0)), (1, .int (nI P)), (2, .int (nI Q)), (3, .int (nI w)), (4, .int (nI T)), (5, .int (nI (cntN (pDif tab g f) (c + 1)))), (6, .int (nI (cntN (fun c => pDif tab g f c && (frow tab c).isNone) (c + 1)))), (7, .int (oI (fnd (pDif tab g f) (c + 1)))), (8, .int (nI c))] := by rw [cntN, cntN, fnd_n hpd]; simp only [hpd, Bool.false_and]; exact hl
                refine lv_iinc (v := nI (c + 1)) (lv' := [(8, .int (nI (c + 1))), (0, .ref (G.ad 0)), (1, .int (nI P)), (2, .int (nI Q)), (3, .int (nI w)), (4, .int (nI T)), (5, .int (nI (cntN (pDif tab g f) (c + 1)))), (6, .int (nI (cntN (fun c => pDif tab g f c && (frow tab c).isNone) (c + 1)))), (7, .int (oI (fnd (pDif tab g f) (c + 1))))]) hE.1 hE.2.1 dX11_changed_145 hl (k := 8) rfl (nI_1 _) (by decide) rfl (fun ls hl => ?_)
                refine lv_goto (tgt := 73) hE.1 hE.2.1 dX11_changed_148 (by decide) ?_
                exact ih73 (c + 1) _ _ _ (by omega) (by omega) (lv_sub hl [1, 2, 3, 4, 5, 6, 7, 8, 0] rfl) hH
          · have hne : (aPg a P).1 ≠ (aPg a Q).1 := by rw [← hTq, ← hUq]; exact c51
            refine lv_aload_n hE.1 hE.2.1 dX11_changed_54 rfl (lv_at hl 1 rfl) ?_
            refine lv_iconst (v := nI 2) hE.1 hE.2.1 dX11_changed_55 (by decide) ?_
            refine rm_puti hE hH hG fl_X11_96 rfl fn_X11_0 (v := nI 2) dX11_changed_56 (fun H locs hH => ?_)
            refine lv_iconst (v := nI 0) hE.1 hE.2.1 dX11_changed_59 (by decide) ?_
            exact rg_iret hE hr rfl hlk hH ⟨rfl, rfl, by rw [show spChanged a (nI P) (nI Q) (nI w) = no 2 a by rw [spChanged, onK_t hPl (by omega), onK_t hQl (by omega), onK_t hw (by decide), if_pos hne]]; exact ⟨rfl, rfl, hS.c0⟩, hF0.tr up0_M⟩ dX11_changed_60
        · refine lv_aload_n hE.1 hE.2.1 dX11_changed_30 rfl (lv_at hl 0 rfl) ?_
          refine rg_VI (As := []) (rest := []) hE hml hH mc_X11_215 (c_fail l z G hG iv1 jv) hG.1.1 hG.1.2 (by decide) rfl ⟨Nat.le_of_ble_eq_true rfl, Nat.le_of_ble_eq_true rfl⟩ rfl hl.1 (by simp [Value.category]) dX11_changed_31 ⟨Nat.le_of_ble_eq_true rfl, Nat.le_of_ble_eq_true rfl⟩ (fun r31 G31 iv31 jv31 H locs hp31 hH => ?_)
          obtain ⟨rfl, rfl, rfl, rfl⟩ := hp31
          exact rg_iret hE hr rfl hlk hH ⟨rfl, rfl, by rw [show spChanged a (nI P) (nI Q) wx = no 1 a by rw [spChanged, onK_t hPl (by omega), onK_t hQl (by omega), onK_f (inI_gt (by decide) c27)]]; exact ⟨rfl, rfl, hS.c0⟩, hF0.tr up0_M⟩ dX11_changed_34
