set_option maxRecDepth 100000 in
set_option maxHeartbeats 4000000 in
theorem c_readTest (l : Launch) (z : ZK) (G : GW) (hG : isM G) (iv : IV) (jv : JV) (B : Nat → Nat) (n : Nat) (t : Tok) (hM : MP iv B n 0 t) (T P : Nat) (hT6 : T < 6) (hP : P < 12) (tab : Tab) (hB : TABL iv T tab) (hW : tabW tab) (fs : List (Nat × Nat)) (hfl : fs.length < 200) (h22 : iv 0 22 = nI fs.length) : cV l z yX11_readTest cX11_readTest 5 none 9 196 0 0 [.ref (G.ad 0), .int (nI P), .int (nI T)] G iv jv (fun G' iv' jv' => G = G' ∧ jv = jv' ∧ (MP iv' B n (rdTest B n tab.1 t).1 (rdTest B n tab.1 t).2.2 ∧ ((rdTest B n tab.1 t).1 = 0 → iv' 0 22 = nI (fs.length + 1) ∧ iv' 20 (200 * P + fs.length) = nI (rdTest B n tab.1 t).2.1.1 ∧ iv' 21 (200 * P + fs.length) = nI (rdTest B n tab.1 t).2.1.2)) ∧ Fr iv iv' (fun lb j => (lb = 0 ∧ 29 ≤ j ∧ j ≤ 36 ∧ j ≠ 30) ∨ (lb = 0 ∧ j = 22) ∨ ((lb = 20 ∨ lb = 21) ∧ j = 200 * P + fs.length))) := by
  intro sz
  refine rg_entry rfl (Nat.le_of_ble_eq_true rfl) ?_
  intro pq eq sq mq bq methq cq ls hE hr hlk hml hnm hl hsz hH
  have hl : lv_has ls 5 [(0, .ref (G.ad 0)), (1, .int (nI P)), (2, .int (nI T))] := hl
  obtain ⟨hbn, hbe, hen, hk3, hs256, hb4⟩ := hM.b
  have hFr : Fr iv iv pQ := Fr.rf
  refine lv_aload_n hE.1 hE.2.1 dX11_readTest_0 rfl (lv_at hl 0 rfl) ?_
  refine rg_VI (As := []) (rest := []) hE hml hH mc_X11_186 (c_free l z G hG iv jv B n 0 t hM) hG.1.1 hG.1.2 (by decide) rfl ⟨Nat.le_of_ble_eq_true rfl, Nat.le_of_ble_eq_true rfl⟩ rfl hl.1 (by simp [Value.category]) dX11_readTest_1 ⟨Nat.le_of_ble_eq_true rfl, Nat.le_of_ble_eq_true rfl⟩ (fun r1 G1 iv1 jv1 H locs hp1 hH => ?_)
  obtain ⟨rfl, rfl, rfl, hM, hF1⟩ := hp1
  have hFr := hFr.tr (hF1.mono (fun _ _ h => h))
  refine rn_ifb_ne (tgt := 8) hE dX11_readTest_4 (by decide) (fun c4 => ?_) (fun c4 => ?_)
  · obtain ⟨-, hf0⟩ := of_decide_eq_true c4
    rw [fb, if_pos rfl, hf0] at hM
    have hB1 : TABL iv1 T tab := (INS.f2 hB hFr (fun lb j h => Or.inr h.1))
    have h51 := hB1.1.2.1
    refine lv_iconst (v := -1) hE.1 hE.2.1 dX11_readTest_8 (by decide) ?_
    refine lv_istore_n (lv' := [(3, .int (-1)), (0, .ref (G.ad 0)), (1, .int (nI P)), (2, .int (nI T))]) hE.1 hE.2.1 dX11_readTest_9 rfl hl (by decide) rfl (fun ls hl => ?_)
    refine lv_iconst (v := nI 0) hE.1 hE.2.1 dX11_readTest_10 (by decide) ?_
    refine lv_istore (lv' := [(4, .int (nI 0)), (3, .int (-1)), (0, .ref (G.ad 0)), (1, .int (nI P)), (2, .int (nI T))]) hE.1 hE.2.1 dX11_readTest_11 hl (by decide) rfl (fun ls hl => ?_)
    refine rg_loop (σ := Int32 × Nat) (nL := 5) (fun (u : Int32 × Nat) => match u with | (x, o) => tab.1.length - o) (fun (u : Int32 × Nat) => match u with | (x, o) => [(0, .ref (G.ad 0)), (1, .int (nI P)), (2, .int (nI T)), (3, .int (x)), (4, .int (nI o))]) (fun (u : Int32 × Nat) => match u with | (x, o) => G) (fun (u : Int32 × Nat) => match u with | (x, o) => iv1) (fun (u : Int32 × Nat) => match u with | (x, o) => jv) (fun (u : Int32 × Nat) => match u with | (x, o) => o ≤ tab.1.length ∧ ((x = -1 ∧ ∀ u, u < o → (tab.1.getD u dC0).1 ≠ wd B t) ∨ ∃ i, i < o ∧ x = nI i ∧ (tab.1.getD i dC0).1 = wd B t)) ?_ ((-1, 0)) ⟨Nat.zero_le _, Or.inl ⟨rfl, fun u hu => absurd hu (Nat.not_lt_zero u)⟩⟩ (lv_sub hl [2, 3, 4, 1, 0] rfl) hH
    rintro ⟨x, o⟩ H locs ls ⟨hoT, hx⟩ hl hH ih13
    try dsimp only at hl hH ih13
    try dsimp only at hoT hx
    refine lv_iload hE.1 hE.2.1 dX11_readTest_13 (lv_at hl 4 rfl) ?_
    refine lv_aload_n hE.1 hE.2.1 dX11_readTest_15 rfl (lv_at hl 0 rfl) ?_
    refine rm_getr hE hH hG fl_X11_20 rfl (by decide) dX11_readTest_16 ?_
    refine lv_iload_n hE.1 hE.2.1 dX11_readTest_19 rfl (lv_at hl 2 rfl) ?_
    refine rm_iald hE hH hG (k := 8) (by decide) rfl (N := 6) rfl (n := T) (by omega) (v := nI tab.1.length) (hB1.f.1) dX11_readTest_20 ?_
    refine rn_icmp_ge (tgt := 47) hE dX11_readTest_21 (by decide) (by omega) (by omega) (fun c21 => ?_) (fun c21 => ?_)
    · refine lv_iload_n hE.1 hE.2.1 dX11_readTest_47 rfl (lv_at hl 3 rfl) ?_
      refine lv_iconst (v := -1) hE.1 hE.2.1 dX11_readTest_48 (by decide) ?_
      refine lv_icmp_ne (tgt := 57) hE.1 hE.2.1 dX11_readTest_49 (by decide) (fun c49 => ?_) (fun c49 => ?_)
      · obtain ⟨i, hil, hix, hiw⟩ : ∃ i, i < tab.1.length ∧ x = nI i ∧ (tab.1.getD i dC0).1 = wd B t := by
          rcases hx with ⟨h1, h2⟩ | ⟨i, h1, h2, h3⟩
          · exact absurd h1 c49
          · exact ⟨i, by omega, h2, h3⟩
        have hsome : ixW (tab.1.map (fun c => c.1)) (wd B t) = some i := ixW_nd hW.1.2.2.2.1 (by rw [List.length_map]; exact hil) (by rw [nm_get hil]; exact hiw)
        refine lv_aload_n hE.1 hE.2.1 dX11_readTest_57 rfl (lv_at hl 0 rfl) ?_
        refine rm_geti hE hH hG fl_X11_131 rfl (v := nI 0) (hM.2.2.2.1) dX11_readTest_58 ?_
        refine rn_if_eq (tgt := 65) hE dX11_readTest_61 (by decide) (by omega) (fun c61 => ?_) (fun c61 => ?_)
        · have hl : lv_has ls 5 [(0, .ref (G.ad 0)), (1, .int (nI P)), (2, .int (nI T)), (3, .int (nI i)), (4, .int (nI o))] := by rw [hix] at hl; exact hl
          refine lv_aload_n hE.1 hE.2.1 dX11_readTest_65 rfl (lv_at hl 0 rfl) ?_
          refine rg_VV (As := []) (rest := []) hE hml hH mc_X11_172 (c_step l z G hG iv1 jv B n (te t) hM.1 (TV_b hM.2.2.1).2.1 hM.2.1.1) hG.1.1 hG.1.2 (by decide) rfl ⟨Nat.le_of_ble_eq_true rfl, Nat.le_of_ble_eq_true rfl⟩ rfl hl.1 (by simp [Value.category]) dX11_readTest_66 ⟨Nat.le_of_ble_eq_true rfl, Nat.le_of_ble_eq_true rfl⟩ (fun G66 iv66 jv66 H locs hp66 hH => ?_)
          obtain ⟨rfl, rfl, hTR66, hF66⟩ := hp66
          have hM := MP.step hM hTR66 hF66
          have hFr := hFr.tr ((pS_pQ hF66).mono (fun _ _ h => h))
          refine lv_aload_n hE.1 hE.2.1 dX11_readTest_69 rfl (lv_at hl 0 rfl) ?_
          refine lv_bipush (v := nI 58) hE.1 hE.2.1 dX11_readTest_70 (by decide) ?_
          refine rg_VV (As := [.int (nI 58)]) (rest := []) hE hml hH mc_X11_196 (c_need l z G hG iv66 jv B n 0 (nx B n t) hM 58 (by decide)) hG.1.1 hG.1.2 (by decide) rfl ⟨Nat.le_of_ble_eq_true rfl, Nat.le_of_ble_eq_true rfl⟩ rfl hl.1 (by simp [Value.category]) dX11_readTest_72 ⟨Nat.le_of_ble_eq_true rfl, Nat.le_of_ble_eq_true rfl⟩ (fun G72 iv72 jv72 H locs hp72 hH => ?_)
          obtain ⟨rfl, rfl, hM, hF72⟩ := hp72
          have hFr := hFr.tr (hF72.mono (fun _ _ h => h))
          obtain ⟨-, -, -, -, -, hb72⟩ := hM.b
          refine lv_aload_n hE.1 hE.2.1 dX11_readTest_75 rfl (lv_at hl 0 rfl) ?_
          refine rm_geti hE hH hG fl_X11_131 rfl (v := nI ((nd B n 0 (nx B n t) 58).1)) (hM.2.2.2.1) dX11_readTest_76 ?_
          refine rn_if_eq (tgt := 83) hE dX11_readTest_79 (by decide) (by omega) (fun c79 => ?_) (fun c79 => ?_)
          · have e79 := nd_pos c79
            rw [e79.2.2.2, c79] at hM
            have h58 : tk (nx B n t) = 2 ∧ ts (nx B n t) = 58 := ⟨e79.2.1, e79.2.2.1⟩
            refine lv_aload_n hE.1 hE.2.1 dX11_readTest_83 rfl (lv_at hl 0 rfl) ?_
            refine lv_iload_n hE.1 hE.2.1 dX11_readTest_84 rfl (lv_at hl 2 rfl) ?_
            refine lv_iload_n hE.1 hE.2.1 dX11_readTest_85 rfl (lv_at hl 3 rfl) ?_
            refine rg_VI (As := [.int (nI T), .int (nI i)]) (rest := []) hE hml hH mc_X11_212 (c_readCell l z G hG iv72 jv B n 0 (nx B n (nx B n t)) hM T i hT6 (by omega) (colsOf tab.1 i) ((INS.f2 hB hFr (fun lb j h => Or.inr h.1)).1.2.2.1 i hil).2) hG.1.1 hG.1.2 (by decide) rfl ⟨Nat.le_of_ble_eq_true rfl, Nat.le_of_ble_eq_true rfl⟩ rfl hl.1 (by simp [Value.category]) dX11_readTest_86 ⟨Nat.le_of_ble_eq_true rfl, Nat.le_of_ble_eq_true rfl⟩ (fun r86 G86 iv86 jv86 H locs hp86 hH => ?_)
            obtain ⟨rfl, rfl, ⟨hM, hrc86⟩, hF86⟩ := hp86
            have hFr := hFr.tr (hF86.mono (fun _ _ h => h))
            have h22a : iv86 0 22 = nI fs.length := (hFr 0 22 (by decide)).trans h22
            refine lv_istore (lv' := [(4, .int (r86)), (0, .ref (G.ad 0)), (1, .int (nI P)), (2, .int (nI T)), (3, .int (nI i))]) hE.1 hE.2.1 dX11_readTest_89 hl (by decide) rfl (fun ls hl => ?_)
            refine lv_aload_n hE.1 hE.2.1 dX11_readTest_91 rfl (lv_at hl 1 rfl) ?_
            refine rm_getr hE hH hG fl_X11_56 rfl (by decide) dX11_readTest_92 ?_
            refine lv_sipush (v := nI 200) hE.1 hE.2.1 dX11_readTest_95 (by decide) ?_
            refine lv_iload_n hE.1 hE.2.1 dX11_readTest_98 rfl (lv_at hl 2 rfl) ?_
            refine rn_imul hE dX11_readTest_99 ?_
            refine lv_aload_n hE.1 hE.2.1 dX11_readTest_100 rfl (lv_at hl 1 rfl) ?_
            refine rm_geti hE hH hG fl_X11_224 rfl (v := nI fs.length) (h22a) dX11_readTest_101 ?_
            refine rn_iadd hE dX11_readTest_104 ?_
            refine lv_iload_n hE.1 hE.2.1 dX11_readTest_105 rfl (lv_at hl 4 rfl) ?_
            refine rm_iast hE hH hG (k := 20) (by decide) rfl (N := 2400) rfl (n := 200 * P + fs.length) (by omega) (v := nI i) dX11_readTest_106 (fun H locs hH => ?_)
            have h22b : (up2 iv86 20 (200 * P + fs.length) (nI i)) 0 22 = nI fs.length := h22a
            refine lv_aload_n hE.1 hE.2.1 dX11_readTest_107 rfl (lv_at hl 1 rfl) ?_
            refine rm_getr hE hH hG fl_X11_59 rfl (by decide) dX11_readTest_108 ?_
            refine lv_sipush (v := nI 200) hE.1 hE.2.1 dX11_readTest_111 (by decide) ?_
            refine lv_iload_n hE.1 hE.2.1 dX11_readTest_114 rfl (lv_at hl 2 rfl) ?_
            refine rn_imul hE dX11_readTest_115 ?_
            refine lv_aload_n hE.1 hE.2.1 dX11_readTest_116 rfl (lv_at hl 1 rfl) ?_
            refine rm_geti hE hH hG fl_X11_224 rfl (v := nI fs.length) (h22b) dX11_readTest_117 ?_
            refine rn_iadd hE dX11_readTest_120 ?_
            refine lv_iload hE.1 hE.2.1 dX11_readTest_121 (lv_at hl 0 rfl) ?_
            refine rm_iast hE hH hG (k := 21) (by decide) rfl (N := 2400) rfl (n := 200 * P + fs.length) (by omega) (v := r86) dX11_readTest_123 (fun H locs hH => ?_)
            have h22c : (up2 (up2 iv86 20 (200 * P + fs.length) (nI i)) 21 (200 * P + fs.length) r86) 0 22 = nI fs.length := h22b
            refine lv_aload_n hE.1 hE.2.1 dX11_readTest_124 rfl (lv_at hl 1 rfl) ?_
            refine lv_dup hE.1 hE.2.1 dX11_readTest_125 rfl ?_
            refine rm_geti hE hH hG fl_X11_224 rfl (v := nI fs.length) (h22c) dX11_readTest_126 ?_
            refine lv_iconst (v := nI 1) hE.1 hE.2.1 dX11_readTest_129 (by decide) ?_
            refine rn_iadd hE dX11_readTest_130 ?_
            refine rm_puti hE hH hG fl_X11_224 rfl fn_X11_22 (v := nI (fs.length + 1)) dX11_readTest_131 (fun H locs hH => ?_)
            exact rg_vret hE hr hlk hH ⟨rfl, rfl, by rw [rdTest_k hf0 hsome h58]; exact ⟨((hM.up 20 _ _ (by decide) (by decide)).up 21 _ _ (by decide) (by decide)).up0 22 _ (by decide), fun h => ⟨rfl, by rw [up2_l (by decide), up2_l (by decide)]; exact up2_s, by rw [up2_l (by decide)]; exact up2_s.trans (hrc86 h)⟩⟩, Fr.up (Fr.up (Fr.up (hFr.mono (fun _ _ h => Or.inl h)) (Or.inr (Or.inr ⟨Or.inl rfl, rfl⟩))) (Or.inr (Or.inr ⟨Or.inr rfl, rfl⟩))) (Or.inr (Or.inl ⟨rfl, rfl⟩))⟩ dX11_readTest_134
          · have hno : ¬ (tk (nx B n t) = 2 ∧ ts (nx B n t) = 58) := fun h => c79 (by rw [nd, if_neg (by simp), if_pos h])
            rw [nd, if_neg (by simp), if_neg hno] at hM
            exact rg_vret hE hr hlk hH ⟨rfl, rfl, by rw [rdTest_s hf0 hsome hno]; exact ⟨hM, fun h => absurd h (by simp)⟩, hFr.mono (fun _ _ h => Or.inl h)⟩ dX11_readTest_82
        · omega
      · have hnone : ixW (tab.1.map (fun c => c.1)) (wd B t) = none := by
          rcases hx with ⟨h1, h2⟩ | ⟨i, h1, h2, h3⟩
          · exact ixW_none (fun u hu => by rw [List.length_map] at hu; rw [nm_get hu]; exact h2 u (by omega))
          · rw [h2] at c49; exact absurd c49 (nI_ne_m1 (by omega))
        refine lv_aload_n hE.1 hE.2.1 dX11_readTest_52 rfl (lv_at hl 0 rfl) ?_
        refine lv_iconst (v := nI 3) hE.1 hE.2.1 dX11_readTest_53 (by decide) ?_
        refine rg_VV (As := [.int (nI 3)]) (rest := []) hE hml hH mc_X11_168 (c_wrong l z G hG iv1 jv B n 0 t hM 3 (by decide)) hG.1.1 hG.1.2 (by decide) rfl ⟨Nat.le_of_ble_eq_true rfl, Nat.le_of_ble_eq_true rfl⟩ rfl hl.1 (by simp [Value.category]) dX11_readTest_54 ⟨Nat.le_of_ble_eq_true rfl, Nat.le_of_ble_eq_true rfl⟩ (fun G54 iv54 jv54 H locs hp54 hH => ?_)
        obtain ⟨rfl, rfl, hM, hF54⟩ := hp54
        rw [if_pos rfl] at hM
        have hFr := hFr.tr (hF54.mono (fun _ _ h => h))
        refine lv_aload_n hE.1 hE.2.1 dX11_readTest_57 rfl (lv_at hl 0 rfl) ?_
        refine rm_geti hE hH hG fl_X11_131 rfl (v := nI 3) (hM.2.2.2.1) dX11_readTest_58 ?_
        refine rn_if_eq (tgt := 65) hE dX11_readTest_61 (by decide) (by omega) (fun c61 => ?_) (fun c61 => ?_)
        · omega
        · exact rg_vret hE hr hlk hH ⟨rfl, rfl, by rw [rdTest_n hf0 hnone]; exact ⟨hM, fun h => absurd h (by simp)⟩, hFr.mono (fun _ _ h => Or.inl h)⟩ dX11_readTest_64
    · refine lv_aload_n hE.1 hE.2.1 dX11_readTest_24 rfl (lv_at hl 0 rfl) ?_
      refine lv_iload_n hE.1 hE.2.1 dX11_readTest_25 rfl (lv_at hl 2 rfl) ?_
      refine lv_iload hE.1 hE.2.1 dX11_readTest_26 (lv_at hl 4 rfl) ?_
      refine lv_iconst (v := nI 0) hE.1 hE.2.1 dX11_readTest_28 (by decide) ?_
      refine rg_SI (As := [.int (nI T), .int (nI o), .int (nI 0)]) (rest := [.ref (G.ad 0)]) hE hml hH mc_X11_179 (c_wordAt l z G hG iv1 jv T o 0) rfl ⟨Nat.le_of_ble_eq_true rfl, Nat.le_of_ble_eq_true rfl⟩ rfl hl.1 (by simp [Value.category]) dX11_readTest_29 ⟨Nat.le_of_ble_eq_true rfl, Nat.le_of_ble_eq_true rfl⟩ (fun r29 G29 iv29 jv29 H locs hp29 hH => ?_)
      obtain ⟨rfl, rfl, rfl, rfl⟩ := hp29
      refine rg_VI (As := [.int (nI (42 * T + 7 * o + 0))]) (rest := []) hE hml hH mc_X11_183 (c_isSame l z G hG iv1 jv B n 0 t hM (42 * T + 7 * o + 0) (by omega) (tab.1.getD o dC0).1 (hB1.1.2.2.1 o (by omega)).1) hG.1.1 hG.1.2 (by decide) rfl ⟨Nat.le_of_ble_eq_true rfl, Nat.le_of_ble_eq_true rfl⟩ rfl hl.1 (by simp [Value.category]) dX11_readTest_32 ⟨Nat.le_of_ble_eq_true rfl, Nat.le_of_ble_eq_true rfl⟩ (fun r32 G32 iv32 jv32 H locs hp32 hH => ?_)
      obtain ⟨rfl, rfl, rfl, rfl⟩ := hp32
      refine rn_ifb_eq (tgt := 41) hE dX11_readTest_35 (by decide) (fun c35 => ?_) (fun c35 => ?_)
      · refine lv_iinc (v := nI (o + 1)) (lv' := [(4, .int (nI (o + 1))), (0, .ref (G.ad 0)), (1, .int (nI P)), (2, .int (nI T)), (3, .int (x))]) hE.1 hE.2.1 dX11_readTest_41 hl (k := 4) rfl (nI_1 _) (by decide) rfl (fun ls hl => ?_)
        refine lv_goto (tgt := 13) hE.1 hE.2.1 dX11_readTest_44 (by decide) ?_
        exact ih13 (x, o + 1) _ _ _ (show tab.1.length - (o + 1) < tab.1.length - o by omega) ⟨by show o + 1 ≤ tab.1.length; omega, by
          dsimp only
          rcases hx with ⟨h1, h2⟩ | ⟨i, h1, h2, h3⟩
          · refine Or.inl ⟨h1, fun u hu h => ?_⟩
            by_cases huo : u = o
            · subst huo; exact (of_decide_eq_false c35) h.symm
            · exact h2 u (by omega) h
          · exact Or.inr ⟨i, by omega, h2, h3⟩⟩ (lv_sub hl [1, 2, 3, 4, 0] rfl) hH
      · refine lv_iload hE.1 hE.2.1 dX11_readTest_38 (lv_at hl 4 rfl) ?_
        refine lv_istore_n (lv' := [(3, .int (nI o)), (0, .ref (G.ad 0)), (1, .int (nI P)), (2, .int (nI T)), (4, .int (nI o))]) hE.1 hE.2.1 dX11_readTest_40 rfl hl (by decide) rfl (fun ls hl => ?_)
        refine lv_iinc (v := nI (o + 1)) (lv' := [(4, .int (nI (o + 1))), (3, .int (nI o)), (0, .ref (G.ad 0)), (1, .int (nI P)), (2, .int (nI T))]) hE.1 hE.2.1 dX11_readTest_41 hl (k := 4) rfl (nI_1 _) (by decide) rfl (fun ls hl => ?_)
        refine lv_goto (tgt := 13) hE.1 hE.2.1 dX11_readTest_44 (by decide) ?_
        exact ih13 (nI o, o + 1) _ _ _ (show tab.1.length - (o + 1) < tab.1.length - o by omega) ⟨by show o + 1 ≤ tab.1.length; omega, Or.inr ⟨o, Nat.lt_succ_self o, rfl, (of_decide_eq_true c35).symm⟩⟩ (lv_sub hl [2, 3, 4, 1, 0] rfl) hH
  · have hfn : frF B t ≠ 0 := fun h => (of_decide_eq_false c4) ⟨rfl, h⟩
    rw [fb, if_pos rfl] at hM
    exact rg_vret hE hr hlk hH ⟨rfl, rfl, by rw [rdTest, if_pos hfn]; exact ⟨hM, fun h => absurd h hfn⟩, hFr.mono (fun _ _ h => Or.inl h)⟩ dX11_readTest_7
