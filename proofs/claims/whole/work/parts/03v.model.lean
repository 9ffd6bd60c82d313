set_option maxRecDepth 100000 in
set_option maxHeartbeats 4000000 in
theorem c_answers0 (l : Launch) (z : ZK) (G : GW) (hG : isM G) (iv : IV) (jv : JV) (T : Nat) (hT : T < 6) (tab : Tab) (hk : tabOK tab) (hB : TABL iv T tab) (P : Nat) (hP : P < 12) (g : Prg) (hg : prgOK tab g) (hPR : PRG iv P g) (h16 : iv 16 P = nI T) (c : Nat) (hc : c < 2147483648) : cI l z yX11_answers0 cX11_answers0 8 (some .int) 1 25 0 0 [.ref (G.ad 0), .int (nI P), .int (nI c)] G iv jv (fun r' G' iv' jv' => G = G' ∧ iv = iv' ∧ jv = jv' ∧ r' = nI (pAns tab g c)) := by
  intro sz
  refine rg_entry rfl (Nat.le_of_ble_eq_true rfl) ?_
  intro pq eq sq mq bq methq cq ls hE hr hlk hml hnm hl hsz hH
  have hl : lv_has ls 8 [(0, .ref (G.ad 0)), (1, .int (nI P)), (2, .int (nI c))] := hl
  have h8 := hB.f.1
  have h10 := hB.f.2.1
  have h9 := hB.f.2.2.1
  have h13 := hB.f.2.2.2.1
  have h14 := hB.f.2.2.2.2.1
  have hm5 := hk.2.1
  have hm1 := hk.1
  have hC := hk.2.2.2.1
  have hR40 := hk.2.2.2.2.2.2.1
  have hgl := hg.2.2.2
  have hw40 := hg.2.1.1
  have hO6 := hk.2.2.2.2.2.1
  refine lv_aload_n hE.1 hE.2.1 dX11_answers0_0 rfl (lv_at hl 0 rfl) ?_
  refine rm_getr hE hH hG fl_X11_44 rfl (by decide) dX11_answers0_1 ?_
  refine lv_iload_n hE.1 hE.2.1 dX11_answers0_4 rfl (lv_at hl 1 rfl) ?_
  refine rm_iald hE hH hG (k := 16) (by decide) rfl (N := 12) rfl (n := P) (by omega) (v := nI T) (h16) dX11_answers0_5 ?_
  refine lv_istore_n (lv' := [(3, .int (nI T)), (0, .ref (G.ad 0)), (1, .int (nI P)), (2, .int (nI c))]) hE.1 hE.2.1 dX11_answers0_6 rfl hl (by decide) rfl (fun ls hl => ?_)
  refine lv_iconst (v := nI 0) hE.1 hE.2.1 dX11_answers0_7 (by decide) ?_
  refine lv_istore (lv' := [(4, .int (nI 0)), (3, .int (nI T)), (0, .ref (G.ad 0)), (1, .int (nI P)), (2, .int (nI c))]) hE.1 hE.2.1 dX11_answers0_8 hl (by decide) rfl (fun ls hl => ?_)
  refine rg_loop (σ := Nat) (nL := 8) (fun (w : Nat) => g.2.1.length - w) (fun (w : Nat) => [(0, .ref (G.ad 0)), (1, .int (nI P)), (2, .int (nI c)), (3, .int (nI T)), (4, .int (nI w))]) (fun (w : Nat) => G) (fun (w : Nat) => iv) (fun (w : Nat) => jv) (fun (w : Nat) => w ≤ g.2.1.length ∧ ∀ j, j < w → wh tab g c j = false) ?_ (0) ⟨Nat.zero_le _, fun j hj => absurd hj (Nat.not_lt_zero j)⟩ (lv_sub hl [2, 3, 4, 1, 0] rfl) hH
  rintro w H locs ls ⟨hwl, hno⟩ hl hH ih10
  try dsimp only at hl hH ih10
  refine lv_iload hE.1 hE.2.1 dX11_answers0_10 (lv_at hl 4 rfl) ?_
  refine lv_aload_n hE.1 hE.2.1 dX11_answers0_12 rfl (lv_at hl 0 rfl) ?_
  refine rm_getr hE hH hG fl_X11_47 rfl (by decide) dX11_answers0_13 ?_
  refine lv_iload_n hE.1 hE.2.1 dX11_answers0_16 rfl (lv_at hl 1 rfl) ?_
  refine rm_iald hE hH hG (k := 17) (by decide) rfl (N := 12) rfl (n := P) (by omega) (v := nI g.2.1.length) (hPR.1) dX11_answers0_17 ?_
  refine rn_icmp_ge (tgt := 132) hE dX11_answers0_18 (by decide) (by omega) (by omega) (fun c18 => ?_) (fun c18 => ?_)
  · refine lv_aload_n hE.1 hE.2.1 dX11_answers0_132 rfl (lv_at hl 0 rfl) ?_
    refine rm_getr hE hH hG fl_X11_50 rfl (by decide) dX11_answers0_133 ?_
    refine lv_bipush (v := nI 41) hE.1 hE.2.1 dX11_answers0_136 (by decide) ?_
    refine lv_iload_n hE.1 hE.2.1 dX11_answers0_138 rfl (lv_at hl 1 rfl) ?_
    refine rn_imul hE dX11_answers0_139 ?_
    refine lv_aload_n hE.1 hE.2.1 dX11_answers0_140 rfl (lv_at hl 0 rfl) ?_
    refine rm_getr hE hH hG fl_X11_47 rfl (by decide) dX11_answers0_141 ?_
    refine lv_iload_n hE.1 hE.2.1 dX11_answers0_144 rfl (lv_at hl 1 rfl) ?_
    refine rm_iald hE hH hG (k := 17) (by decide) rfl (N := 12) rfl (n := P) (by omega) (v := nI g.2.1.length) (hPR.1) dX11_answers0_145 ?_
    refine rn_iadd hE dX11_answers0_146 ?_
    refine rm_iald hE hH hG (k := 18) (by decide) rfl (N := 492) rfl (n := 41 * P + g.2.1.length) (by omega) (v := nI g.2.2) (hPR.2.2.2.2) dX11_answers0_147 ?_
    exact rg_iret hE hr rfl hlk hH ⟨rfl, rfl, rfl, by rw [pAns, fnd_none (fun j hj => hno j (by omega))]⟩ dX11_answers0_148
  · have hwt := wto_b hg (w := w) (by omega)
    have hto : iv 19 (41 * P + w + 1) = nI (wto g w) := by
      unfold wto
      split
      · rename_i h; exact (hPR.2.2.1 (w + 1) h).1
      · rename_i h; rw [show 41 * P + w + 1 = 41 * P + g.2.1.length by omega]; exact hPR.2.2.2.1
    refine lv_bipush (v := nI 41) hE.1 hE.2.1 dX11_answers0_21 (by decide) ?_
    refine lv_iload_n hE.1 hE.2.1 dX11_answers0_23 rfl (lv_at hl 1 rfl) ?_
    refine rn_imul hE dX11_answers0_24 ?_
    refine lv_iload hE.1 hE.2.1 dX11_answers0_25 (lv_at hl 4 rfl) ?_
    refine rn_iadd hE dX11_answers0_27 ?_
    refine lv_istore (lv' := [(5, .int (nI (41 * P + w))), (0, .ref (G.ad 0)), (1, .int (nI P)), (2, .int (nI c)), (3, .int (nI T)), (4, .int (nI w))]) hE.1 hE.2.1 dX11_answers0_28 hl (by decide) rfl (fun ls hl => ?_)
    refine lv_iconst (v := nI 1) hE.1 hE.2.1 dX11_answers0_30 (by decide) ?_
    refine lv_istore (lv' := [(6, .int (nI 1)), (5, .int (nI (41 * P + w))), (0, .ref (G.ad 0)), (1, .int (nI P)), (2, .int (nI c)), (3, .int (nI T)), (4, .int (nI w))]) hE.1 hE.2.1 dX11_answers0_31 hl (by decide) rfl (fun ls hl => ?_)
    have hl : lv_has ls 8 [(6, .int (bI true)), (5, .int (nI (41 * P + w))), (0, .ref (G.ad 0)), (1, .int (nI P)), (2, .int (nI c)), (3, .int (nI T)), (4, .int (nI w))] := hl
    refine lv_aload_n hE.1 hE.2.1 dX11_answers0_33 rfl (lv_at hl 2 rfl) ?_
    refine rm_getr hE hH hG fl_X11_53 rfl (by decide) dX11_answers0_34 ?_
    refine lv_iload hE.1 hE.2.1 dX11_answers0_37 (lv_at hl 1 rfl) ?_
    refine rm_iald hE hH hG (k := 19) (by decide) rfl (N := 492) rfl (n := 41 * P + w) (by omega) (v := nI ((g.2.1.getD w (0, 0)).1)) ((hPR.2.2.1 w (by omega)).1) dX11_answers0_39 ?_
    refine lv_istore (lv' := [(7, .int (nI ((g.2.1.getD w (0, 0)).1))), (6, .int (bI true)), (5, .int (nI (41 * P + w))), (0, .ref (G.ad 0)), (1, .int (nI P)), (2, .int (nI c)), (3, .int (nI T)), (4, .int (nI w))]) hE.1 hE.2.1 dX11_answers0_40 hl (by decide) rfl (fun ls hl => ?_)
    refine rg_loop (σ := Bool × Nat) (nL := 8) (fun (u : Bool × Nat) => match u with | (b, j) => wto g w - j) (fun (u : Bool × Nat) => match u with | (b, j) => [(0, .ref (G.ad 0)), (1, .int (nI P)), (2, .int (nI c)), (3, .int (nI T)), (4, .int (nI w)), (5, .int (nI (41 * P + w))), (6, .int (bI b)), (7, .int (nI ((g.2.1.getD w (0, 0)).1 + j)))]) (fun (u : Bool × Nat) => match u with | (b, j) => G) (fun (u : Bool × Nat) => match u with | (b, j) => iv) (fun (u : Bool × Nat) => match u with | (b, j) => jv) (fun (u : Bool × Nat) => match u with | (b, j) => (g.2.1.getD w (0, 0)).1 + j ≤ wto g w ∧ b = whI tab g c (g.2.1.getD w (0, 0)).1 j) ?_ ((true, 0)) ⟨hwt.1, rfl⟩ (lv_sub hl [3, 4, 5, 6, 7, 2, 1, 0] rfl) hH
    rintro ⟨b, j⟩ H locs ls ⟨hjt, hb⟩ hl hH ih42
    try dsimp only at hl hH ih42
    try dsimp only at hjt hb
    refine lv_iload hE.1 hE.2.1 dX11_answers0_42 (lv_at hl 7 rfl) ?_
    refine lv_aload_n hE.1 hE.2.1 dX11_answers0_44 rfl (lv_at hl 0 rfl) ?_
    refine rm_getr hE hH hG fl_X11_53 rfl (by decide) dX11_answers0_45 ?_
    refine lv_iload hE.1 hE.2.1 dX11_answers0_48 (lv_at hl 5 rfl) ?_
    refine lv_iconst (v := nI 1) hE.1 hE.2.1 dX11_answers0_50 (by decide) ?_
    refine rn_iadd hE dX11_answers0_51 ?_
    refine rm_iald hE hH hG (k := 19) (by decide) rfl (N := 492) rfl (n := 41 * P + w + 1) (by omega) (v := nI (wto g w)) (hto) dX11_answers0_52 ?_
    refine rn_icmp_ge (tgt := 113) hE dX11_answers0_53 (by decide) (by omega) (by omega) (fun c53 => ?_) (fun c53 => ?_)
    · have hres : wh tab g c w = b := by rw [hb]; unfold wh; rw [show wto g w - (g.2.1.getD w (0, 0)).1 = j by omega]
      refine lv_iload hE.1 hE.2.1 dX11_answers0_113 (lv_at hl 6 rfl) ?_
      refine rn_ifb_eq (tgt := 126) hE dX11_answers0_115 (by decide) (fun c115 => ?_) (fun c115 => ?_)
      · refine lv_iinc (v := nI (w + 1)) (lv' := [(4, .int (nI (w + 1))), (0, .ref (G.ad 0)), (1, .int (nI P)), (2, .int (nI c)), (3, .int (nI T)), (5, .int (nI (41 * P + w))), (6, .int (bI b)), (7, .int (nI ((g.2.1.getD w (0, 0)).1 + j)))]) hE.1 hE.2.1 dX11_answers0_126 hl (k := 4) rfl (nI_1 _) (by decide) rfl (fun ls hl => ?_)
        refine lv_goto (tgt := 10) hE.1 hE.2.1 dX11_answers0_129 (by decide) ?_
        exact ih10 (w + 1) _ _ _ (by omega) ⟨by omega, fun j hj => by
          by_cases hjw : j = w
          · subst hjw; rw [hres, c115]
          · exact hno j (by omega)⟩ (lv_sub hl [1, 2, 3, 4, 0] rfl) hH
      · refine lv_aload_n hE.1 hE.2.1 dX11_answers0_118 rfl (lv_at hl 0 rfl) ?_
        refine rm_getr hE hH hG fl_X11_50 rfl (by decide) dX11_answers0_119 ?_
        refine lv_iload hE.1 hE.2.1 dX11_answers0_122 (lv_at hl 5 rfl) ?_
        refine rm_iald hE hH hG (k := 18) (by decide) rfl (N := 492) rfl (n := 41 * P + w) (by omega) (v := nI ((g.2.1.getD w (0, 0)).2)) ((hPR.2.2.1 w (by omega)).2) dX11_answers0_124 ?_
        exact rg_iret hE hr rfl hlk hH ⟨rfl, rfl, rfl, by rw [pAns, fnd_some (k := w) (by omega) (by rw [hres, c115]) hno]⟩ dX11_answers0_125
    · refine lv_iload hE.1 hE.2.1 dX11_answers0_56 (lv_at hl 6 rfl) ?_
      refine rn_ifb_eq (tgt := 113) hE dX11_answers0_58 (by decide) (fun c58 => ?_) (fun c58 => ?_)
      · have hres : wh tab g c w = b := by rw [c58] at hb ⊢; exact whI_le hb.symm (by omega)
        refine lv_iload hE.1 hE.2.1 dX11_answers0_113 (lv_at hl 6 rfl) ?_
        refine rn_ifb_eq (tgt := 126) hE dX11_answers0_115 (by decide) (fun c115 => ?_) (fun c115 => ?_)
        · refine lv_iinc (v := nI (w + 1)) (lv' := [(4, .int (nI (w + 1))), (0, .ref (G.ad 0)), (1, .int (nI P)), (2, .int (nI c)), (3, .int (nI T)), (5, .int (nI (41 * P + w))), (6, .int (bI b)), (7, .int (nI ((g.2.1.getD w (0, 0)).1 + j)))]) hE.1 hE.2.1 dX11_answers0_126 hl (k := 4) rfl (nI_1 _) (by decide) rfl (fun ls hl => ?_)
          refine lv_goto (tgt := 10) hE.1 hE.2.1 dX11_answers0_129 (by decide) ?_
          exact ih10 (w + 1) _ _ _ (by omega) ⟨by omega, fun j hj => by
            by_cases hjw : j = w
            · subst hjw; rw [hres, c115]
            · exact hno j (by omega)⟩ (lv_sub hl [1, 2, 3, 4, 0] rfl) hH
        · refine lv_aload_n hE.1 hE.2.1 dX11_answers0_118 rfl (lv_at hl 0 rfl) ?_
          refine rm_getr hE hH hG fl_X11_50 rfl (by decide) dX11_answers0_119 ?_
          refine lv_iload hE.1 hE.2.1 dX11_answers0_122 (lv_at hl 5 rfl) ?_
          refine rm_iald hE hH hG (k := 18) (by decide) rfl (N := 492) rfl (n := 41 * P + w) (by omega) (v := nI ((g.2.1.getD w (0, 0)).2)) ((hPR.2.2.1 w (by omega)).2) dX11_answers0_124 ?_
          exact rg_iret hE hr rfl hlk hH ⟨rfl, rfl, rfl, by rw [pAns, fnd_some (k := w) (by omega) (by rw [hres, c115]) hno]⟩ dX11_answers0_125
      · have hq := hg.1 ((g.2.1.getD w (0, 0)).1 + j) (by omega)
        have hq1 : (g.1.getD ((g.2.1.getD w (0, 0)).1 + j) (0, 0)).1 < tm tab := hq.1
        refine lv_aload_n hE.1 hE.2.1 dX11_answers0_61 rfl (lv_at hl 0 rfl) ?_
        refine rm_getr hE hH hG fl_X11_59 rfl (by decide) dX11_answers0_62 ?_
        refine lv_sipush (v := nI 200) hE.1 hE.2.1 dX11_answers0_65 (by decide) ?_
        refine lv_iload_n hE.1 hE.2.1 dX11_answers0_68 rfl (lv_at hl 1 rfl) ?_
        refine rn_imul hE dX11_answers0_69 ?_
        refine lv_iload hE.1 hE.2.1 dX11_answers0_70 (lv_at hl 7 rfl) ?_
        refine rn_iadd hE dX11_answers0_72 ?_
        refine rm_iald hE hH hG (k := 21) (by decide) rfl (N := 2400) rfl (n := 200 * P + ((g.2.1.getD w (0, 0)).1 + j)) (by omega) (v := nI ((g.1.getD ((g.2.1.getD w (0, 0)).1 + j) (0, 0)).2)) ((hPR.2.1 _ (by omega)).2) dX11_answers0_73 ?_
        refine lv_aload_n hE.1 hE.2.1 dX11_answers0_74 rfl (lv_at hl 0 rfl) ?_
        refine lv_iload_n hE.1 hE.2.1 dX11_answers0_75 rfl (lv_at hl 3 rfl) ?_
        refine lv_iload_n hE.1 hE.2.1 dX11_answers0_76 rfl (lv_at hl 2 rfl) ?_
        refine lv_aload_n hE.1 hE.2.1 dX11_answers0_77 rfl (lv_at hl 0 rfl) ?_
        refine rm_getr hE hH hG fl_X11_56 rfl (by decide) dX11_answers0_78 ?_
        refine lv_sipush (v := nI 200) hE.1 hE.2.1 dX11_answers0_81 (by decide) ?_
        refine lv_iload_n hE.1 hE.2.1 dX11_answers0_84 rfl (lv_at hl 1 rfl) ?_
        refine rn_imul hE dX11_answers0_85 ?_
        refine lv_iload hE.1 hE.2.1 dX11_answers0_86 (lv_at hl 7 rfl) ?_
        refine rn_iadd hE dX11_answers0_88 ?_
        refine rm_iald hE hH hG (k := 20) (by decide) rfl (N := 2400) rfl (n := 200 * P + ((g.2.1.getD w (0, 0)).1 + j)) (by omega) (v := nI ((g.1.getD ((g.2.1.getD w (0, 0)).1 + j) (0, 0)).1)) ((hPR.2.1 _ (by omega)).1) dX11_answers0_89 ?_
        refine rg_VI (As := [.int (nI T), .int (nI c), .int (nI ((g.1.getD ((g.2.1.getD w (0, 0)).1 + j) (0, 0)).1))]) (rest := [.int (nI ((g.1.getD ((g.2.1.getD w (0, 0)).1 + j) (0, 0)).2))]) hE hml hH mc_X11_240 (c_valueOf l z G hG iv jv T hT tab hk hB c ((g.1.getD ((g.2.1.getD w (0, 0)).1 + j) (0, 0)).1) (by omega) (by omega)) hG.1.1 hG.1.2 (by decide) rfl ⟨Nat.le_of_ble_eq_true rfl, Nat.le_of_ble_eq_true rfl⟩ rfl hl.1 (by simp [Value.category]) dX11_answers0_90 ⟨Nat.le_of_ble_eq_true rfl, Nat.le_of_ble_eq_true rfl⟩ (fun r90 G90 iv90 jv90 H locs hp90 hH => ?_)
        obtain ⟨rfl, rfl, rfl, rfl⟩ := hp90
        refine lv_ishr hE.1 hE.2.1 dX11_answers0_93 ?_
        refine lv_iconst (v := nI 1) hE.1 hE.2.1 dX11_answers0_94 (by decide) ?_
        refine lv_iand hE.1 hE.2.1 dX11_answers0_95 ?_
        refine lv_iconst (v := nI 1) hE.1 hE.2.1 dX11_answers0_96 (by decide) ?_
        refine rb_raw_ne (t1 := 104) (t2 := 105) hE dX11_answers0_97 (by decide) dX11_answers0_100 dX11_answers0_101 (by decide) dX11_answers0_104 rfl ?_
        refine lv_istore (lv' := [(6, .int (bI (decide (((nI ((g.1.getD ((g.2.1.getD w (0, 0)).1 + j) (0, 0)).2)) >>> ((nI (vOf (tf tab) (tm tab) c ((g.1.getD ((g.2.1.getD w (0, 0)).1 + j) (0, 0)).1))) &&& 31)) &&& (nI 1) = nI 1)))), (0, .ref (G.ad 0)), (1, .int (nI P)), (2, .int (nI c)), (3, .int (nI T)), (4, .int (nI w)), (5, .int (nI (41 * P + w))), (7, .int (nI ((g.2.1.getD w (0, 0)).1 + j)))]) hE.1 hE.2.1 dX11_answers0_105 hl (by decide) rfl (fun ls hl => ?_)
        refine lv_iinc (v := nI ((g.2.1.getD w (0, 0)).1 + j + 1)) (lv' := [(7, .int (nI ((g.2.1.getD w (0, 0)).1 + j + 1))), (6, .int (bI (decide (((nI ((g.1.getD ((g.2.1.getD w (0, 0)).1 + j) (0, 0)).2)) >>> ((nI (vOf (tf tab) (tm tab) c ((g.1.getD ((g.2.1.getD w (0, 0)).1 + j) (0, 0)).1))) &&& 31)) &&& (nI 1) = nI 1)))), (0, .ref (G.ad 0)), (1, .int (nI P)), (2, .int (nI c)), (3, .int (nI T)), (4, .int (nI w)), (5, .int (nI (41 * P + w)))]) hE.1 hE.2.1 dX11_answers0_107 hl (k := 7) rfl (nI_1 _) (by decide) rfl (fun ls hl => ?_)
        refine lv_goto (tgt := 42) hE.1 hE.2.1 dX11_answers0_110 (by decide) ?_
        exact ih42 (decide _, j + 1) _ _ _ (show wto g w - (j + 1) < wto g w - j by omega) ⟨by show (g.2.1.getD w (0, 0)).1 + (j + 1) ≤ wto g w; omega, by dsimp only; rw [whI, ← hb, c58, Bool.true_and, Bool.eq_iff_iff, decide_eq_true_eq]; exact bit_t _ hq.2 _ (vOf_lt hk hq1)⟩ (lv_sub hl [2, 3, 4, 5, 6, 7, 1, 0] rfl) hH
set_option maxRecDepth 100000 in
set_option maxHeartbeats 4000000 in
theorem c_isFailed (l : Launch) (z : ZK) (G : GW) (hG : isM G) (iv : IV) (jv : JV) (T : Nat) (hT : T < 6) (tab : Tab) (hFT : FT iv T tab) (P : Nat) (hP : P < 12) (g : Prg) (hg : prgOK tab g) (hPR : PRG iv P g) (h16 : iv 16 P = nI T) (r : Int32) (c : Nat) (hc : c < tC tab) : cI l z yX11_isFailed cX11_isFailed 6 (some .boolean) 2 52 0 0 [.ref (G.ad 0), .int (nI P), .int (r), .int (nI c)] G iv jv (fun r' G' iv' jv' => G = G' ∧ iv = iv' ∧ jv = jv' ∧ r' = bI (pFail tab g r c)) := by
  intro sz
  refine rg_entry rfl (Nat.le_of_ble_eq_true rfl) ?_
  intro pq eq sq mq bq methq cq ls hE hr hlk hml hnm hl hsz hH
  have hl : lv_has ls 6 [(0, .ref (G.ad 0)), (1, .int (nI P)), (2, .int (r)), (3, .int (nI c))] := hl
  have hB := hFT.1
  have hk := hFT.2.1
  have hA := hFT.2.2
  have h8 := hB.f.1
  have h10 := hB.f.2.1
  have h9 := hB.f.2.2.1
  have h13 := hB.f.2.2.2.1
  have h14 := hB.f.2.2.2.2.1
  have hm5 := hk.2.1
  have hm1 := hk.1
  have hC := hk.2.2.2.1
  have hR40 := hk.2.2.2.2.2.2.1
  have hgl := hg.2.2.2
  have hw40 := hg.2.1.1
  have hO6 := hk.2.2.2.2.2.1
  refine lv_aload_n hE.1 hE.2.1 dX11_isFailed_0 rfl (lv_at hl 0 rfl) ?_
  refine rm_getr hE hH hG fl_X11_44 rfl (by decide) dX11_isFailed_1 ?_
  refine lv_iload_n hE.1 hE.2.1 dX11_isFailed_4 rfl (lv_at hl 1 rfl) ?_
  refine rm_iald hE hH hG (k := 16) (by decide) rfl (N := 12) rfl (n := P) (by omega) (v := nI T) (h16) dX11_isFailed_5 ?_
  refine lv_istore (lv' := [(4, .int (nI T)), (0, .ref (G.ad 0)), (1, .int (nI P)), (2, .int (r)), (3, .int (nI c))]) hE.1 hE.2.1 dX11_isFailed_6 hl (by decide) rfl (fun ls hl => ?_)
  refine lv_aload_n hE.1 hE.2.1 dX11_isFailed_8 rfl (lv_at hl 1 rfl) ?_
  refine rm_getr hE hH hG fl_X11_41 rfl (by decide) dX11_isFailed_9 ?_
  refine lv_sipush (v := nI 400) hE.1 hE.2.1 dX11_isFailed_12 (by decide) ?_
  refine lv_iload hE.1 hE.2.1 dX11_isFailed_15 (lv_at hl 0 rfl) ?_
  refine rn_imul hE dX11_isFailed_17 ?_
  refine lv_iload_n hE.1 hE.2.1 dX11_isFailed_18 rfl (lv_at hl 4 rfl) ?_
  refine rn_iadd hE dX11_isFailed_19 ?_
  refine rm_iald hE hH hG (k := 15) (by decide) rfl (N := 2400) rfl (n := 400 * T + c) (by omega) (v := oI (frow tab c)) (hA c hc) dX11_isFailed_20 ?_
  refine lv_istore (lv' := [(5, .int (oI (frow tab c))), (4, .int (nI T)), (0, .ref (G.ad 0)), (1, .int (nI P)), (2, .int (r)), (3, .int (nI c))]) hE.1 hE.2.1 dX11_isFailed_21 hl (by decide) rfl (fun ls hl => ?_)
  refine lv_iload hE.1 hE.2.1 dX11_isFailed_23 (lv_at hl 0 rfl) ?_
  refine lv_iconst (v := -1) hE.1 hE.2.1 dX11_isFailed_25 (by decide) ?_
  refine lv_icmp_eq (tgt := 66) hE.1 hE.2.1 dX11_isFailed_26 (by decide) (fun c26 => ?_) (fun c26 => ?_)
  · rw [oI_m1 (fun k hk2 => by have := frow_lt hk2; omega)] at c26
    refine lv_iconst (v := nI 0) hE.1 hE.2.1 dX11_isFailed_66 (by decide) ?_
    exact rg_iret hE hr (nz_0) hlk hH ⟨rfl, rfl, rfl, zero_bI (by unfold pFail; rw [c26])⟩ dX11_isFailed_67
  · obtain ⟨q, hq⟩ : ∃ q, frow tab c = some q := by
      cases h : frow tab c with
      | none => rw [h] at c26; exact absurd rfl c26
      | some q => exact ⟨q, rfl⟩
    have hql := frow_lt hq
    have htv := (hk.2.2.2.2.2.2.2 q hql).2
    have hpa := pAns_lt hg (c := c)
    have hl : lv_has ls 6 [(5, .int (nI q)), (4, .int (nI T)), (0, .ref (G.ad 0)), (1, .int (nI P)), (2, .int (r)), (3, .int (nI c))] := by rw [hq] at hl; exact hl
    refine lv_iload_n hE.1 hE.2.1 dX11_isFailed_29 rfl (lv_at hl 4 rfl) ?_
    refine lv_iconst (v := -1) hE.1 hE.2.1 dX11_isFailed_30 (by decide) ?_
    refine lv_icmp_eq (tgt := 40) hE.1 hE.2.1 dX11_isFailed_31 (by decide) (fun c31 => ?_) (fun c31 => ?_)
    · refine lv_aload_n hE.1 hE.2.1 dX11_isFailed_40 rfl (lv_at hl 2 rfl) ?_
      refine lv_iload_n hE.1 hE.2.1 dX11_isFailed_41 rfl (lv_at hl 3 rfl) ?_
      refine lv_iload_n hE.1 hE.2.1 dX11_isFailed_42 rfl (lv_at hl 5 rfl) ?_
      refine rg_VI (As := [.int (nI P), .int (nI c)]) (rest := []) hE hml hH mc_X11_319 (c_answers0 l z G hG iv jv T hT tab hk hB P hP g hg hPR h16 c (by omega)) hG.1.1 hG.1.2 (by decide) rfl ⟨Nat.le_of_ble_eq_true rfl, Nat.le_of_ble_eq_true rfl⟩ rfl hl.1 (by simp [Value.category]) dX11_isFailed_43 ⟨Nat.le_of_ble_eq_true rfl, Nat.le_of_ble_eq_true rfl⟩ (fun r43 G43 iv43 jv43 H locs hp43 hH => ?_)
      obtain ⟨rfl, rfl, rfl, rfl⟩ := hp43
      refine lv_aload_n hE.1 hE.2.1 dX11_isFailed_46 rfl (lv_at hl 2 rfl) ?_
      refine rm_getr hE hH hG fl_X11_38 rfl (by decide) dX11_isFailed_47 ?_
      refine lv_bipush (v := nI 40) hE.1 hE.2.1 dX11_isFailed_50 (by decide) ?_
      refine lv_iload hE.1 hE.2.1 dX11_isFailed_52 (lv_at hl 1 rfl) ?_
      refine rn_imul hE dX11_isFailed_54 ?_
      refine lv_iload hE.1 hE.2.1 dX11_isFailed_55 (lv_at hl 0 rfl) ?_
      refine rn_iadd hE dX11_isFailed_57 ?_
      refine rm_iald hE hH hG (k := 14) (by decide) rfl (N := 240) rfl (n := 40 * T + q) (by omega) (v := nI (tvv tab q)) (h14 q (by omega)) dX11_isFailed_58 ?_
      refine rb_icmp_eq (t1 := 66) (t2 := 67) hE dX11_isFailed_59 (by decide) dX11_isFailed_62 dX11_isFailed_63 (by decide) dX11_isFailed_66 rfl (by omega) (by omega) ?_
      exact rg_iret hE hr nz_bI hlk hH ⟨rfl, rfl, rfl, by rw [show pFail tab g r c = decide (pAns tab g c ≠ tvv tab q) by unfold pFail; rw [hq]; simp [c31]]⟩ dX11_isFailed_67
    · refine lv_iload hE.1 hE.2.1 dX11_isFailed_34 (lv_at hl 0 rfl) ?_
      refine lv_iload_n hE.1 hE.2.1 dX11_isFailed_36 rfl (lv_at hl 4 rfl) ?_
      refine lv_icmp_ne (tgt := 66) hE.1 hE.2.1 dX11_isFailed_37 (by decide) (fun c37 => ?_) (fun c37 => ?_)
      · refine lv_iconst (v := nI 0) hE.1 hE.2.1 dX11_isFailed_66 (by decide) ?_
        exact rg_iret hE hr (nz_0) hlk hH ⟨rfl, rfl, rfl, zero_bI (by unfold pFail; rw [hq]; simp [c31, c37])⟩ dX11_isFailed_67
      · refine lv_aload_n hE.1 hE.2.1 dX11_isFailed_40 rfl (lv_at hl 2 rfl) ?_
        refine lv_iload_n hE.1 hE.2.1 dX11_isFailed_41 rfl (lv_at hl 3 rfl) ?_
        refine lv_iload_n hE.1 hE.2.1 dX11_isFailed_42 rfl (lv_at hl 5 rfl) ?_
        refine rg_VI (As := [.int (nI P), .int (nI c)]) (rest := []) hE hml hH mc_X11_319 (c_answers0 l z G hG iv jv T hT tab hk hB P hP g hg hPR h16 c (by omega)) hG.1.1 hG.1.2 (by decide) rfl ⟨Nat.le_of_ble_eq_true rfl, Nat.le_of_ble_eq_true rfl⟩ rfl hl.1 (by simp [Value.category]) dX11_isFailed_43 ⟨Nat.le_of_ble_eq_true rfl, Nat.le_of_ble_eq_true rfl⟩ (fun r43 G43 iv43 jv43 H locs hp43 hH => ?_)
        obtain ⟨rfl, rfl, rfl, rfl⟩ := hp43
        refine lv_aload_n hE.1 hE.2.1 dX11_isFailed_46 rfl (lv_at hl 2 rfl) ?_
        refine rm_getr hE hH hG fl_X11_38 rfl (by decide) dX11_isFailed_47 ?_
        refine lv_bipush (v := nI 40) hE.1 hE.2.1 dX11_isFailed_50 (by decide) ?_
        refine lv_iload hE.1 hE.2.1 dX11_isFailed_52 (lv_at hl 1 rfl) ?_
        refine rn_imul hE dX11_isFailed_54 ?_
        refine lv_iload hE.1 hE.2.1 dX11_isFailed_55 (lv_at hl 0 rfl) ?_
        refine rn_iadd hE dX11_isFailed_57 ?_
        refine rm_iald hE hH hG (k := 14) (by decide) rfl (N := 240) rfl (n := 40 * T + q) (by omega) (v := nI (tvv tab q)) (h14 q (by omega)) dX11_isFailed_58 ?_
        refine rb_icmp_eq (t1 := 66) (t2 := 67) hE dX11_isFailed_59 (by decide) dX11_isFailed_62 dX11_isFailed_63 (by decide) dX11_isFailed_66 rfl (by omega) (by omega) ?_
        exact rg_iret hE hr nz_bI hlk hH ⟨rfl, rfl, rfl, by rw [show pFail tab g r c = decide (pAns tab g c ≠ tvv tab q) by unfold pFail; rw [hq]; simp [c37]]⟩ dX11_isFailed_67
