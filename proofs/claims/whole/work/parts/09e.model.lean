set_option maxRecDepth 100000 in
set_option maxHeartbeats 4000000 in
theorem lo_0 {p : Program} {l : Launch} {e : Env} {s : State} {m : MethodId} {below : List Frame} {meth : Method} {c : Code} {D : va_G} {cy : Nat → ClassId} {z : ZK} {b L : Nat} {xs : Nat → Int32} {Q : State → Prop} (hLE : lwE p l s m meth c D cy z b L xs) {i : Nat} (hi : i + 5 < L) {G : GW} {iv : IV} {jv : JV} {a : AS} {H : Heap} {locs : List Loc} {cells slots : Nat} {ls : Array Slot} (hH : HS D cy G (fun q : Nat => s.heap.size ≤ q) s.heap iv jv H locs) (hS : lwS G iv jv a) (hB : lwB i a cells slots) (hl : lv_has ls 7 (lvL G b i)) (kk : ∀ (G' : GW) (iv' : IV) (jv' : JV) (a' : AS) (H' : Heap) (locs' : List Loc) (cells' slots' : Nat) (ls' : Array Slot), HS D cy G' (fun q : Nat => s.heap.size ≤ q) s.heap iv' jv' H' locs' → lwS G' iv' jv' a' → lwB (i + 6) a' cells' slots' → lv_has ls' 7 (lvL G' b i) → W p l e room_1 s m #[Value.ref b] below meth c H' locs' cells' slots' Q (F0 m 1405 ls' [])) : W p l e room_1 s m #[Value.ref b] below meth c H locs cells slots Q (F0 m 132 ls []) := by
  obtain ⟨hE, hml, hXs, hbl, hlt, hL3, hrt, hlk⟩ := hLE
  have hbA : ¬ (fun q : Nat => s.heap.size ≤ q) b := Nat.not_le.mpr hbl
  obtain ⟨hM, hSt, hC, hO⟩ := hS
  obtain ⟨hBc, hBs⟩ := hB
  have hT6 := hC.2.2.2.2.1.2.1
  have hP12 := hC.2.2.2.2.2.1.2.1
  have hl : lv_has ls 7 [(0, .ref b), (1, .ref (G.ad 100)), (2, .ref (G.ad 0)), (3, .ref (G.ad 50)), (4, .int (nI i))] := hl
  refine lv_aload_n hE.1 hE.2.1 dL_law_132 rfl (lv_at hl 1 rfl) ?_
  refine lv_aload_n hE.1 hE.2.1 dL_law_133 rfl (lv_at hl 0 rfl) ?_
  refine lv_iload hE.1 hE.2.1 dL_law_134 (lv_at hl 4 rfl) ?_
  refine lv_iconst (v := nI 1) hE.1 hE.2.1 dL_law_136 (by decide) ?_
  refine rn_iadd hE dL_law_137 ?_
  refine sc_ld (i := i + 1) hE hXs hbl hbA hH (by omega) hL3 dL_law_138 ?_
  refine lv_aload_n hE.1 hE.2.1 dL_law_139 rfl (lv_at hl 0 rfl) ?_
  refine lv_iload hE.1 hE.2.1 dL_law_140 (lv_at hl 4 rfl) ?_
  refine lv_iconst (v := nI 2) hE.1 hE.2.1 dL_law_142 (by decide) ?_
  refine rn_iadd hE dL_law_143 ?_
  refine sc_ld (i := i + 2) hE hXs hbl hbA hH (by omega) hL3 dL_law_144 ?_
  refine lv_aload_n hE.1 hE.2.1 dL_law_145 rfl (lv_at hl 0 rfl) ?_
  refine lv_iload hE.1 hE.2.1 dL_law_146 (lv_at hl 4 rfl) ?_
  refine lv_iconst (v := nI 3) hE.1 hE.2.1 dL_law_148 (by decide) ?_
  refine rn_iadd hE dL_law_149 ?_
  refine sc_ld (i := i + 3) hE hXs hbl hbA hH (by omega) hL3 dL_law_150 ?_
  refine lv_aload_n hE.1 hE.2.1 dL_law_151 rfl (lv_at hl 0 rfl) ?_
  refine lv_iload hE.1 hE.2.1 dL_law_152 (lv_at hl 4 rfl) ?_
  refine lv_iconst (v := nI 4) hE.1 hE.2.1 dL_law_154 (by decide) ?_
  refine rn_iadd hE dL_law_155 ?_
  refine sc_ld (i := i + 4) hE hXs hbl hbA hH (by omega) hL3 dL_law_156 ?_
  refine lv_aload_n hE.1 hE.2.1 dL_law_157 rfl (lv_at hl 0 rfl) ?_
  refine lv_iload hE.1 hE.2.1 dL_law_158 (lv_at hl 4 rfl) ?_
  refine lv_iconst (v := nI 5) hE.1 hE.2.1 dL_law_160 (by decide) ?_
  refine rn_iadd hE dL_law_161 ?_
  refine sc_ld (i := i + 5) hE hXs hbl hbA hH (by omega) hL3 dL_law_162 ?_
  refine rg_VI (As := [.int (xs (i + 1)), .int (xs (i + 2)), .int (xs (i + 3)), .int (xs (i + 4)), .int (xs (i + 5))]) (rest := []) hE hml hH mc_L_72 (c_x_feed l z G iv jv a hC (xs (i + 1)) (xs (i + 2)) (xs (i + 3)) (xs (i + 4)) (xs (i + 5))) hC.1.1.1 hC.1.1.2 (by decide) rfl ⟨Nat.le_of_ble_eq_true rfl, Nat.le_of_ble_eq_true rfl⟩ rfl hl.1 (by simp [Value.category]) dL_law_163 ⟨by show cells + 0 ≤ 601024; omega, by show slots + 0 ≤ 7293034; omega⟩ (fun r163 G163 iv163 jv163 H locs hp163 hH => ?_)
  obtain ⟨rfl, rfl, ⟨h0s, rfl, hCn⟩, hFr⟩ := hp163
  have hSt := hSt.fr hFr (fun lb j h1 h2 => by omega)
  have hln := lnK_feed (a := a) (w := fW (xs (i + 1)) (xs (i + 2)) (xs (i + 3)) (xs (i + 4)) (xs (i + 5)))
  have hlt1 := hln.1
  have hlp1 := hln.2
  refine lv_aload_n hE.1 hE.2.1 dL_law_166 rfl (lv_at hl 2 rfl) ?_
  refine lv_aload_n hE.1 hE.2.1 dL_law_167 rfl (lv_at hl 0 rfl) ?_
  refine lv_iload hE.1 hE.2.1 dL_law_168 (lv_at hl 4 rfl) ?_
  refine lv_iconst (v := nI 1) hE.1 hE.2.1 dL_law_170 (by decide) ?_
  refine rn_iadd hE dL_law_171 ?_
  refine sc_ld (i := i + 1) hE hXs hbl hbA hH (by omega) hL3 dL_law_172 ?_
  refine lv_aload_n hE.1 hE.2.1 dL_law_173 rfl (lv_at hl 0 rfl) ?_
  refine lv_iload hE.1 hE.2.1 dL_law_174 (lv_at hl 4 rfl) ?_
  refine lv_iconst (v := nI 2) hE.1 hE.2.1 dL_law_176 (by decide) ?_
  refine rn_iadd hE dL_law_177 ?_
  refine sc_ld (i := i + 2) hE hXs hbl hbA hH (by omega) hL3 dL_law_178 ?_
  refine lv_aload_n hE.1 hE.2.1 dL_law_179 rfl (lv_at hl 0 rfl) ?_
  refine lv_iload hE.1 hE.2.1 dL_law_180 (lv_at hl 4 rfl) ?_
  refine lv_iconst (v := nI 3) hE.1 hE.2.1 dL_law_182 (by decide) ?_
  refine rn_iadd hE dL_law_183 ?_
  refine sc_ld (i := i + 3) hE hXs hbl hbA hH (by omega) hL3 dL_law_184 ?_
  refine lv_aload_n hE.1 hE.2.1 dL_law_185 rfl (lv_at hl 0 rfl) ?_
  refine lv_iload hE.1 hE.2.1 dL_law_186 (lv_at hl 4 rfl) ?_
  refine lv_iconst (v := nI 4) hE.1 hE.2.1 dL_law_188 (by decide) ?_
  refine rn_iadd hE dL_law_189 ?_
  refine sc_ld (i := i + 4) hE hXs hbl hbA hH (by omega) hL3 dL_law_190 ?_
  refine lv_aload_n hE.1 hE.2.1 dL_law_191 rfl (lv_at hl 0 rfl) ?_
  refine lv_iload hE.1 hE.2.1 dL_law_192 (lv_at hl 4 rfl) ?_
  refine lv_iconst (v := nI 5) hE.1 hE.2.1 dL_law_194 (by decide) ?_
  refine rn_iadd hE dL_law_195 ?_
  refine sc_ld (i := i + 5) hE hXs hbl hbA hH (by omega) hL3 dL_law_196 ?_
  refine rg_VI (As := [.int (xs (i + 1)), .int (xs (i + 2)), .int (xs (i + 3)), .int (xs (i + 4)), .int (xs (i + 5))]) (rest := [.int ((spFeed a (fW (xs (i + 1)) (xs (i + 2)) (xs (i + 3)) (xs (i + 4)) (xs (i + 5)))).2.1)]) hE hml hH mc_L_76 (c_feed l z G hM iv163 jv a hSt (xs (i + 1)) (xs (i + 2)) (xs (i + 3)) (xs (i + 4)) (xs (i + 5))) hM.1.1 hM.1.2 (by decide) rfl ⟨Nat.le_of_ble_eq_true rfl, Nat.le_of_ble_eq_true rfl⟩ rfl hl.1 (by simp [Value.category]) dL_law_197 ⟨by show (cells + 0) + 0 ≤ 601024; omega, by show (slots + 0) + 0 ≤ 7293034; omega⟩ (fun r197 G197 iv197 jv197 H locs hp197 hH => ?_)
  obtain ⟨rfl, rfl, ⟨h00, rfl, hSt⟩, hFm⟩ := hp197
  have hC := hCn.fr hFm (Q := fun _ _ => False) FrJ.rf (fun lb j h1 h2 => by simp only [pM] at h2; omega) (fun _ _ _ h => h)
  refine lv_icmp_eq (tgt := 1405) hE.1 hE.2.1 dL_law_200 (by decide) (fun c200 => ?_) (fun c200 => ?_)
  · exact kk _ _ _ _ _ _ _ _ _ hH ⟨hM, hSt, hC, hO⟩ ⟨by show ((cells + 0) + 0) ≤ 200 + 4 * (i + 6) + 60 * (aT (spFeed a (fW (xs (i + 1)) (xs (i + 2)) (xs (i + 3)) (xs (i + 4)) (xs (i + 5)))).2.2).length + 10 * (aP (spFeed a (fW (xs (i + 1)) (xs (i + 2)) (xs (i + 3)) (xs (i + 4)) (xs (i + 5)))).2.2).length; omega, by show ((slots + 0) + 0) ≤ 60000 + 24 * (i + 6) + 83000 * (aT (spFeed a (fW (xs (i + 1)) (xs (i + 2)) (xs (i + 3)) (xs (i + 4)) (xs (i + 5)))).2.2).length + 700 * (aP (spFeed a (fW (xs (i + 1)) (xs (i + 2)) (xs (i + 3)) (xs (i + 4)) (xs (i + 5)))).2.2).length; omega⟩ (lv_sub hl [0, 1, 2, 3, 4] rfl)
  · exact (c200 rfl).elim
set_option maxRecDepth 100000 in
set_option maxHeartbeats 4000000 in
theorem lo_1 {p : Program} {l : Launch} {e : Env} {s : State} {m : MethodId} {below : List Frame} {meth : Method} {c : Code} {D : va_G} {cy : Nat → ClassId} {z : ZK} {b L : Nat} {xs : Nat → Int32} {Q : State → Prop} (hLE : lwE p l s m meth c D cy z b L xs) {i : Nat} (hi : i + 5 < L) {G : GW} {iv : IV} {jv : JV} {a : AS} {H : Heap} {locs : List Loc} {cells slots : Nat} {ls : Array Slot} (hH : HS D cy G (fun q : Nat => s.heap.size ≤ q) s.heap iv jv H locs) (hS : lwS G iv jv a) (hB : lwB i a cells slots) (hl : lv_has ls 7 (lvL G b i)) (kk : ∀ (G' : GW) (iv' : IV) (jv' : JV) (a' : AS) (H' : Heap) (locs' : List Loc) (cells' slots' : Nat) (ls' : Array Slot), HS D cy G' (fun q : Nat => s.heap.size ≤ q) s.heap iv' jv' H' locs' → lwS G' iv' jv' a' → lwB (i + 6) a' cells' slots' → lv_has ls' 7 (lvL G' b i) → W p l e room_1 s m #[Value.ref b] below meth c H' locs' cells' slots' Q (F0 m 1405 ls' [])) : W p l e room_1 s m #[Value.ref b] below meth c H locs cells slots Q (F0 m 205 ls []) := by
  obtain ⟨hE, hml, hXs, hbl, hlt, hL3, hrt, hlk⟩ := hLE
  have hbA : ¬ (fun q : Nat => s.heap.size ≤ q) b := Nat.not_le.mpr hbl
  obtain ⟨hM, hSt, hC, hO⟩ := hS
  obtain ⟨hBc, hBs⟩ := hB
  have hT6 := hC.2.2.2.2.1.2.1
  have hP12 := hC.2.2.2.2.2.1.2.1
  have hl : lv_has ls 7 [(0, .ref b), (1, .ref (G.ad 100)), (2, .ref (G.ad 0)), (3, .ref (G.ad 50)), (4, .int (nI i))] := hl
  refine lv_aload_n hE.1 hE.2.1 dL_law_205 rfl (lv_at hl 1 rfl) ?_
  refine lv_aload_n hE.1 hE.2.1 dL_law_206 rfl (lv_at hl 0 rfl) ?_
  refine lv_iload hE.1 hE.2.1 dL_law_207 (lv_at hl 4 rfl) ?_
  refine lv_iconst (v := nI 1) hE.1 hE.2.1 dL_law_209 (by decide) ?_
  refine rn_iadd hE dL_law_210 ?_
  refine sc_ld (i := i + 1) hE hXs hbl hbA hH (by omega) hL3 dL_law_211 ?_
  refine lv_aload_n hE.1 hE.2.1 dL_law_212 rfl (lv_at hl 3 rfl) ?_
  have htn := tNew_le (a := a) (x := xs (i + 1))
  have hte : tNew a (xs (i + 1)) = (aT (spTable a (xs (i + 1))).2.2).length - (aT a).length := rfl
  refine rh_SI (As := [.ref (G.ad 100), .int (xs (i + 1)), .ref (G.ad 50)]) (rest := []) hE hml hH mc_L_77 (c_L_table l z hlt G iv jv a hC hO (xs (i + 1)) (1 + 60 * tNew a (xs (i + 1))) (6 + 83000 * tNew a (xs (i + 1))) (Nat.le_refl _) (Nat.le_refl _)) rfl ⟨Nat.le_of_ble_eq_true rfl, Nat.le_of_ble_eq_true rfl⟩ rfl hl.1 (by simp [Value.category]) dL_law_213 ⟨by show cells + (1 + 60 * tNew a (xs (i + 1))) ≤ 601024; omega, by show slots + (6 + 83000 * tNew a (xs (i + 1))) ≤ 7293034; omega⟩ (fun r213 G213 iv213 jv213 H locs hp213 hH => ?_)
  obtain ⟨hEX, rfl, hov, hCn, hFr, hFj, h3, hln⟩ := hp213
  have hlt1 := hln.1
  have hlp1 := hln.2
  have hl : lv_has ls 7 [(0, .ref b), (1, .ref (G213.ad 100)), (2, .ref (G213.ad 0)), (3, .ref (G213.ad 50)), (4, .int (nI i))] := by rw [hEX.adm hC.1.1.1, hEX.adm hM.1.1, hEX.adm hO.1]; exact hl
  have hM := hM.e hEX (by decide)
  have hSt := hSt.fr hFr (fun lb j h1 h2 => by omega)
  have hO := hO.em hEX
  refine lv_istore (lv' := [(5, .int (nI (spTable a (xs (i + 1))).1)), (0, .ref b), (1, .ref (G213.ad 100)), (2, .ref (G213.ad 0)), (3, .ref (G213.ad 50)), (4, .int (nI i))]) hE.1 hE.2.1 dL_law_216 hl (by decide) rfl (fun ls hl => ?_)
  refine lv_aload_n hE.1 hE.2.1 dL_law_218 rfl (lv_at hl 3 rfl) ?_
  refine lv_aload_n hE.1 hE.2.1 dL_law_219 rfl (lv_at hl 1 rfl) ?_
  refine lv_iload hE.1 hE.2.1 dL_law_220 (lv_at hl 5 rfl) ?_
  refine lv_iconst (v := nI 1) hE.1 hE.2.1 dL_law_222 (by decide) ?_
  refine rn_iadd hE dL_law_223 ?_
  refine sc_ld (i := i + 1) hE hXs hbl hbA hH (by omega) hL3 dL_law_224 ?_
  refine rg_VI (As := [.int (xs (i + 1))]) (rest := []) hE hml hH mc_L_82 (c_table l z G213 hM iv213 jv213 a hSt (xs (i + 1))) hM.1.1 hM.1.2 (by decide) rfl ⟨Nat.le_of_ble_eq_true rfl, Nat.le_of_ble_eq_true rfl⟩ rfl hl.1 (by simp [Value.category]) dL_law_225 ⟨by show (cells + (1 + 60 * tNew a (xs (i + 1)))) + 0 ≤ 601024; omega, by show (slots + (6 + 83000 * tNew a (xs (i + 1)))) + 0 ≤ 7293034; omega⟩ (fun r225 G225 iv225 jv225 H locs hp225 hH => ?_)
  obtain ⟨rfl, rfl, ⟨h00, rfl, hSt⟩, hFm⟩ := hp225
  have hC := hCn.fr hFm (Q := fun _ _ => False) FrJ.rf (fun lb j h1 h2 => by simp only [pM] at h2; omega) (fun _ _ _ h => h)
  refine lv_istore (lv' := [(6, .int ((spTable a (xs (i + 1))).2.1)), (5, .int (nI (spTable a (xs (i + 1))).1)), (0, .ref b), (1, .ref (G213.ad 100)), (2, .ref (G213.ad 0)), (3, .ref (G213.ad 50)), (4, .int (nI i))]) hE.1 hE.2.1 dL_law_228 hl (by decide) rfl (fun ls hl => ?_)
  refine lv_aload_n hE.1 hE.2.1 dL_law_230 rfl (lv_at hl 4 rfl) ?_
  refine rg_VI (As := []) (rest := []) hE hml hH mc_L_83 (c_thrown l z G213 hM iv225 jv213) hM.1.1 hM.1.2 (by decide) rfl ⟨Nat.le_of_ble_eq_true rfl, Nat.le_of_ble_eq_true rfl⟩ rfl hl.1 (by simp [Value.category]) dL_law_231 ⟨by show ((cells + (1 + 60 * tNew a (xs (i + 1)))) + 0) + 0 ≤ 601024; omega, by show ((slots + (6 + 83000 * tNew a (xs (i + 1)))) + 0) + 0 ≤ 7293034; omega⟩ (fun r231 G231 iv231 jv231 H locs hp231 hH => ?_)
  obtain ⟨rfl, rfl, rfl, rfl⟩ := hp231
  refine rn_as (v' := nI (spTable a (xs (i + 1))).1) h00 ?_
  refine lv_iload hE.1 hE.2.1 dL_law_234 (lv_at hl 1 rfl) ?_
  refine lv_icmp_eq (tgt := 241) hE.1 hE.2.1 dL_law_236 (by decide) (fun c236 => ?_) (fun c236 => ?_)
  · refine lv_iload hE.1 hE.2.1 dL_law_241 (lv_at hl 1 rfl) ?_
    refine lv_if_ne (tgt := 258) hE.1 hE.2.1 dL_law_243 (by decide) (fun c243 => ?_) (fun c243 => ?_)
    · refine lv_goto (tgt := 1405) hE.1 hE.2.1 dL_law_258 (by decide) ?_
      exact kk _ _ _ _ _ _ _ _ _ hH ⟨hM, hSt, hC, hO⟩ ⟨by show (((cells + (1 + 60 * tNew a (xs (i + 1)))) + 0) + 0) ≤ 200 + 4 * (i + 6) + 60 * (aT (spTable a (xs (i + 1))).2.2).length + 10 * (aP (spTable a (xs (i + 1))).2.2).length; omega, by show (((slots + (6 + 83000 * tNew a (xs (i + 1)))) + 0) + 0) ≤ 60000 + 24 * (i + 6) + 83000 * (aT (spTable a (xs (i + 1))).2.2).length + 700 * (aP (spTable a (xs (i + 1))).2.2).length; omega⟩ (lv_sub hl [2, 3, 4, 5, 6] rfl)
    · have hz0 : (spTable a (xs (i + 1))).1 = 0 := (nI_eq (Nat.lt_trans h3 (by decide)) (by decide)).mp c243
      refine lv_aload_n hE.1 hE.2.1 dL_law_246 rfl (lv_at hl 5 rfl) ?_
      refine lv_iconst (v := nI 0) hE.1 hE.2.1 dL_law_247 (by decide) ?_
      refine rg_lald hE hH (hO.1) (hO.2.1) (by rw [hO.2.2]; decide) (v := (spTable a (xs (i + 1))).2.1.toInt64) (hov hz0) dL_law_248 ?_
      refine lv_iload hE.1 hE.2.1 dL_law_249 (lv_at hl 0 rfl) ?_
      refine lv_i2l (v := ((spTable a (xs (i + 1))).2.1).toInt64) hE.1 hE.2.1 dL_law_251 rfl ?_
      refine lv_lcmp hE.1 hE.2.1 dL_law_252 ?_
      refine lv_if_eq (tgt := 258) hE.1 hE.2.1 dL_law_253 (by decide) (fun c253 => ?_) (fun c253 => ?_)
      · refine lv_goto (tgt := 1405) hE.1 hE.2.1 dL_law_258 (by decide) ?_
        exact kk _ _ _ _ _ _ _ _ _ hH ⟨hM, hSt, hC, hO⟩ ⟨by show (((cells + (1 + 60 * tNew a (xs (i + 1)))) + 0) + 0) ≤ 200 + 4 * (i + 6) + 60 * (aT (spTable a (xs (i + 1))).2.2).length + 10 * (aP (spTable a (xs (i + 1))).2.2).length; omega, by show (((slots + (6 + 83000 * tNew a (xs (i + 1)))) + 0) + 0) ≤ 60000 + 24 * (i + 6) + 83000 * (aT (spTable a (xs (i + 1))).2.2).length + 700 * (aP (spTable a (xs (i + 1))).2.2).length; omega⟩ (lv_sub hl [2, 3, 4, 5, 6] rfl)
      · exact (c253 lc_self).elim
  · exact (c236 rfl).elim
set_option maxRecDepth 100000 in
set_option maxHeartbeats 4000000 in
theorem lo_2 {p : Program} {l : Launch} {e : Env} {s : State} {m : MethodId} {below : List Frame} {meth : Method} {c : Code} {D : va_G} {cy : Nat → ClassId} {z : ZK} {b L : Nat} {xs : Nat → Int32} {Q : State → Prop} (hLE : lwE p l s m meth c D cy z b L xs) {i : Nat} (hi : i + 5 < L) {G : GW} {iv : IV} {jv : JV} {a : AS} {H : Heap} {locs : List Loc} {cells slots : Nat} {ls : Array Slot} (hH : HS D cy G (fun q : Nat => s.heap.size ≤ q) s.heap iv jv H locs) (hS : lwS G iv jv a) (hB : lwB i a cells slots) (hl : lv_has ls 7 (lvL G b i)) (kk : ∀ (G' : GW) (iv' : IV) (jv' : JV) (a' : AS) (H' : Heap) (locs' : List Loc) (cells' slots' : Nat) (ls' : Array Slot), HS D cy G' (fun q : Nat => s.heap.size ≤ q) s.heap iv' jv' H' locs' → lwS G' iv' jv' a' → lwB (i + 6) a' cells' slots' → lv_has ls' 7 (lvL G' b i) → W p l e room_1 s m #[Value.ref b] below meth c H' locs' cells' slots' Q (F0 m 1405 ls' [])) : W p l e room_1 s m #[Value.ref b] below meth c H locs cells slots Q (F0 m 261 ls []) := by
  obtain ⟨hE, hml, hXs, hbl, hlt, hL3, hrt, hlk⟩ := hLE
  have hbA : ¬ (fun q : Nat => s.heap.size ≤ q) b := Nat.not_le.mpr hbl
  obtain ⟨hM, hSt, hC, hO⟩ := hS
  obtain ⟨hBc, hBs⟩ := hB
  have hT6 := hC.2.2.2.2.1.2.1
  have hP12 := hC.2.2.2.2.2.1.2.1
  have hl : lv_has ls 7 [(0, .ref b), (1, .ref (G.ad 100)), (2, .ref (G.ad 0)), (3, .ref (G.ad 50)), (4, .int (nI i))] := hl
  refine lv_aload_n hE.1 hE.2.1 dL_law_261 rfl (lv_at hl 1 rfl) ?_
  refine lv_aload_n hE.1 hE.2.1 dL_law_262 rfl (lv_at hl 0 rfl) ?_
  refine lv_iload hE.1 hE.2.1 dL_law_263 (lv_at hl 4 rfl) ?_
  refine lv_iconst (v := nI 1) hE.1 hE.2.1 dL_law_265 (by decide) ?_
  refine rn_iadd hE dL_law_266 ?_
  refine sc_ld (i := i + 1) hE hXs hbl hbA hH (by omega) hL3 dL_law_267 ?_
  refine lv_aload_n hE.1 hE.2.1 dL_law_268 rfl (lv_at hl 0 rfl) ?_
  refine lv_iload hE.1 hE.2.1 dL_law_269 (lv_at hl 4 rfl) ?_
  refine lv_iconst (v := nI 2) hE.1 hE.2.1 dL_law_271 (by decide) ?_
  refine rn_iadd hE dL_law_272 ?_
  refine sc_ld (i := i + 2) hE hXs hbl hbA hH (by omega) hL3 dL_law_273 ?_
  refine lv_aload_n hE.1 hE.2.1 dL_law_274 rfl (lv_at hl 3 rfl) ?_
  have htn := gNew_le (a := a) (t := xs (i + 1)) (x := xs (i + 2))
  have hte : gNew a (xs (i + 1)) (xs (i + 2)) = (aP (spProgram a (xs (i + 1)) (xs (i + 2))).2.2).length - (aP a).length := rfl
  refine rh_SI (As := [.ref (G.ad 100), .int (xs (i + 1)), .int (xs (i + 2)), .ref (G.ad 50)]) (rest := []) hE hml hH mc_L_87 (c_L_program l z hlt G iv jv a hC hO (xs (i + 1)) (xs (i + 2)) (2 + 10 * gNew a (xs (i + 1)) (xs (i + 2))) (12 + 700 * gNew a (xs (i + 1)) (xs (i + 2))) (Nat.le_refl _) (Nat.le_refl _)) rfl ⟨Nat.le_of_ble_eq_true rfl, Nat.le_of_ble_eq_true rfl⟩ rfl hl.1 (by simp [Value.category]) dL_law_275 ⟨by show cells + (2 + 10 * gNew a (xs (i + 1)) (xs (i + 2))) ≤ 601024; omega, by show slots + (12 + 700 * gNew a (xs (i + 1)) (xs (i + 2))) ≤ 7293034; omega⟩ (fun r275 G275 iv275 jv275 H locs hp275 hH => ?_)
  obtain ⟨hEX, rfl, hov, hCn, hFr, hFj, h3, hln⟩ := hp275
  have hlt1 := hln.1
  have hlp1 := hln.2
  have hl : lv_has ls 7 [(0, .ref b), (1, .ref (G275.ad 100)), (2, .ref (G275.ad 0)), (3, .ref (G275.ad 50)), (4, .int (nI i))] := by rw [hEX.adm hC.1.1.1, hEX.adm hM.1.1, hEX.adm hO.1]; exact hl
  have hM := hM.e hEX (by decide)
  have hSt := hSt.fr hFr (fun lb j h1 h2 => by omega)
  have hO := hO.em hEX
  refine lv_istore (lv' := [(5, .int (nI (spProgram a (xs (i + 1)) (xs (i + 2))).1)), (0, .ref b), (1, .ref (G275.ad 100)), (2, .ref (G275.ad 0)), (3, .ref (G275.ad 50)), (4, .int (nI i))]) hE.1 hE.2.1 dL_law_278 hl (by decide) rfl (fun ls hl => ?_)
  refine lv_aload_n hE.1 hE.2.1 dL_law_280 rfl (lv_at hl 3 rfl) ?_
  refine lv_aload_n hE.1 hE.2.1 dL_law_281 rfl (lv_at hl 1 rfl) ?_
  refine lv_iload hE.1 hE.2.1 dL_law_282 (lv_at hl 5 rfl) ?_
  refine lv_iconst (v := nI 1) hE.1 hE.2.1 dL_law_284 (by decide) ?_
  refine rn_iadd hE dL_law_285 ?_
  refine sc_ld (i := i + 1) hE hXs hbl hbA hH (by omega) hL3 dL_law_286 ?_
  refine lv_aload_n hE.1 hE.2.1 dL_law_287 rfl (lv_at hl 1 rfl) ?_
  refine lv_iload hE.1 hE.2.1 dL_law_288 (lv_at hl 5 rfl) ?_
  refine lv_iconst (v := nI 2) hE.1 hE.2.1 dL_law_290 (by decide) ?_
  refine rn_iadd hE dL_law_291 ?_
  refine sc_ld (i := i + 2) hE hXs hbl hbA hH (by omega) hL3 dL_law_292 ?_
  refine rg_VI (As := [.int (xs (i + 1)), .int (xs (i + 2))]) (rest := []) hE hml hH mc_L_90 (c_program l z G275 hM iv275 jv275 a hSt (xs (i + 1)) (xs (i + 2))) hM.1.1 hM.1.2 (by decide) rfl ⟨Nat.le_of_ble_eq_true rfl, Nat.le_of_ble_eq_true rfl⟩ rfl hl.1 (by simp [Value.category]) dL_law_293 ⟨by show (cells + (2 + 10 * gNew a (xs (i + 1)) (xs (i + 2)))) + 0 ≤ 601024; omega, by show (slots + (12 + 700 * gNew a (xs (i + 1)) (xs (i + 2)))) + 0 ≤ 7293034; omega⟩ (fun r293 G293 iv293 jv293 H locs hp293 hH => ?_)
  obtain ⟨rfl, rfl, ⟨h00, rfl, hSt⟩, hFm⟩ := hp293
  have hC := hCn.fr hFm (Q := fun _ _ => False) FrJ.rf (fun lb j h1 h2 => by simp only [pM] at h2; omega) (fun _ _ _ h => h)
  refine lv_istore (lv' := [(6, .int ((spProgram a (xs (i + 1)) (xs (i + 2))).2.1)), (5, .int (nI (spProgram a (xs (i + 1)) (xs (i + 2))).1)), (0, .ref b), (1, .ref (G275.ad 100)), (2, .ref (G275.ad 0)), (3, .ref (G275.ad 50)), (4, .int (nI i))]) hE.1 hE.2.1 dL_law_296 hl (by decide) rfl (fun ls hl => ?_)
  refine lv_aload_n hE.1 hE.2.1 dL_law_298 rfl (lv_at hl 4 rfl) ?_
  refine rg_VI (As := []) (rest := []) hE hml hH mc_L_83 (c_thrown l z G275 hM iv293 jv275) hM.1.1 hM.1.2 (by decide) rfl ⟨Nat.le_of_ble_eq_true rfl, Nat.le_of_ble_eq_true rfl⟩ rfl hl.1 (by simp [Value.category]) dL_law_299 ⟨by show ((cells + (2 + 10 * gNew a (xs (i + 1)) (xs (i + 2)))) + 0) + 0 ≤ 601024; omega, by show ((slots + (12 + 700 * gNew a (xs (i + 1)) (xs (i + 2)))) + 0) + 0 ≤ 7293034; omega⟩ (fun r299 G299 iv299 jv299 H locs hp299 hH => ?_)
  obtain ⟨rfl, rfl, rfl, rfl⟩ := hp299
  refine rn_as (v' := nI (spProgram a (xs (i + 1)) (xs (i + 2))).1) h00 ?_
  refine lv_iload hE.1 hE.2.1 dL_law_302 (lv_at hl 1 rfl) ?_
  refine lv_icmp_eq (tgt := 309) hE.1 hE.2.1 dL_law_304 (by decide) (fun c304 => ?_) (fun c304 => ?_)
  · refine lv_iload hE.1 hE.2.1 dL_law_309 (lv_at hl 1 rfl) ?_
    refine lv_if_ne (tgt := 326) hE.1 hE.2.1 dL_law_311 (by decide) (fun c311 => ?_) (fun c311 => ?_)
    · refine lv_goto (tgt := 1405) hE.1 hE.2.1 dL_law_326 (by decide) ?_
      exact kk _ _ _ _ _ _ _ _ _ hH ⟨hM, hSt, hC, hO⟩ ⟨by show (((cells + (2 + 10 * gNew a (xs (i + 1)) (xs (i + 2)))) + 0) + 0) ≤ 200 + 4 * (i + 6) + 60 * (aT (spProgram a (xs (i + 1)) (xs (i + 2))).2.2).length + 10 * (aP (spProgram a (xs (i + 1)) (xs (i + 2))).2.2).length; omega, by show (((slots + (12 + 700 * gNew a (xs (i + 1)) (xs (i + 2)))) + 0) + 0) ≤ 60000 + 24 * (i + 6) + 83000 * (aT (spProgram a (xs (i + 1)) (xs (i + 2))).2.2).length + 700 * (aP (spProgram a (xs (i + 1)) (xs (i + 2))).2.2).length; omega⟩ (lv_sub hl [2, 3, 4, 5, 6] rfl)
    · have hz0 : (spProgram a (xs (i + 1)) (xs (i + 2))).1 = 0 := (nI_eq (Nat.lt_trans h3 (by decide)) (by decide)).mp c311
      refine lv_aload_n hE.1 hE.2.1 dL_law_314 rfl (lv_at hl 5 rfl) ?_
      refine lv_iconst (v := nI 0) hE.1 hE.2.1 dL_law_315 (by decide) ?_
      refine rg_lald hE hH (hO.1) (hO.2.1) (by rw [hO.2.2]; decide) (v := (spProgram a (xs (i + 1)) (xs (i + 2))).2.1.toInt64) (hov hz0) dL_law_316 ?_
      refine lv_iload hE.1 hE.2.1 dL_law_317 (lv_at hl 0 rfl) ?_
      refine lv_i2l (v := ((spProgram a (xs (i + 1)) (xs (i + 2))).2.1).toInt64) hE.1 hE.2.1 dL_law_319 rfl ?_
      refine lv_lcmp hE.1 hE.2.1 dL_law_320 ?_
      refine lv_if_eq (tgt := 326) hE.1 hE.2.1 dL_law_321 (by decide) (fun c321 => ?_) (fun c321 => ?_)
      · refine lv_goto (tgt := 1405) hE.1 hE.2.1 dL_law_326 (by decide) ?_
        exact kk _ _ _ _ _ _ _ _ _ hH ⟨hM, hSt, hC, hO⟩ ⟨by show (((cells + (2 + 10 * gNew a (xs (i + 1)) (xs (i + 2)))) + 0) + 0) ≤ 200 + 4 * (i + 6) + 60 * (aT (spProgram a (xs (i + 1)) (xs (i + 2))).2.2).length + 10 * (aP (spProgram a (xs (i + 1)) (xs (i + 2))).2.2).length; omega, by show (((slots + (12 + 700 * gNew a (xs (i + 1)) (xs (i + 2)))) + 0) + 0) ≤ 60000 + 24 * (i + 6) + 83000 * (aT (spProgram a (xs (i + 1)) (xs (i + 2))).2.2).length + 700 * (aP (spProgram a (xs (i + 1)) (xs (i + 2))).2.2).length; omega⟩ (lv_sub hl [2, 3, 4, 5, 6] rfl)
      · exact (c321 lc_self).elim
  · exact (c304 rfl).elim
set_option maxRecDepth 100000 in
set_option maxHeartbeats 4000000 in
theorem lo_3 {p : Program} {l : Launch} {e : Env} {s : State} {m : MethodId} {below : List Frame} {meth : Method} {c : Code} {D : va_G} {cy : Nat → ClassId} {z : ZK} {b L : Nat} {xs : Nat → Int32} {Q : State → Prop} (hLE : lwE p l s m meth c D cy z b L xs) {i : Nat} (hi : i + 5 < L) {G : GW} {iv : IV} {jv : JV} {a : AS} {H : Heap} {locs : List Loc} {cells slots : Nat} {ls : Array Slot} (hH : HS D cy G (fun q : Nat => s.heap.size ≤ q) s.heap iv jv H locs) (hS : lwS G iv jv a) (hB : lwB i a cells slots) (hl : lv_has ls 7 (lvL G b i)) (kk : ∀ (G' : GW) (iv' : IV) (jv' : JV) (a' : AS) (H' : Heap) (locs' : List Loc) (cells' slots' : Nat) (ls' : Array Slot), HS D cy G' (fun q : Nat => s.heap.size ≤ q) s.heap iv' jv' H' locs' → lwS G' iv' jv' a' → lwB (i + 6) a' cells' slots' → lv_has ls' 7 (lvL G' b i) → W p l e room_1 s m #[Value.ref b] below meth c H' locs' cells' slots' Q (F0 m 1405 ls' [])) : W p l e room_1 s m #[Value.ref b] below meth c H locs cells slots Q (F0 m 329 ls []) := by
  obtain ⟨hE, hml, hXs, hbl, hlt, hL3, hrt, hlk⟩ := hLE
  have hbA : ¬ (fun q : Nat => s.heap.size ≤ q) b := Nat.not_le.mpr hbl
  obtain ⟨hM, hSt, hC, hO⟩ := hS
  obtain ⟨hBc, hBs⟩ := hB
  have hT6 := hC.2.2.2.2.1.2.1
  have hP12 := hC.2.2.2.2.2.1.2.1
  have hl : lv_has ls 7 [(0, .ref b), (1, .ref (G.ad 100)), (2, .ref (G.ad 0)), (3, .ref (G.ad 50)), (4, .int (nI i))] := hl
  refine lv_aload_n hE.1 hE.2.1 dL_law_329 rfl (lv_at hl 1 rfl) ?_
  refine rg_VI (As := []) (rest := []) hE hml hH mc_L_91 (c_x_fault l z G iv jv a hC) hC.1.1.1 hC.1.1.2 (by decide) rfl ⟨Nat.le_of_ble_eq_true rfl, Nat.le_of_ble_eq_true rfl⟩ rfl hl.1 (by simp [Value.category]) dL_law_330 ⟨by show cells + 0 ≤ 601024; omega, by show slots + 0 ≤ 7293034; omega⟩ (fun r330 G330 iv330 jv330 H locs hp330 hH => ?_)
  obtain ⟨rfl, rfl, rfl, hsf⟩ := hp330
  obtain rfl : (spFault a).2.1 = r330 := by rw [hsf]; rfl
  have hCn := hC
  have hln : lnK a (spFault a).2.2 := lnK.rf
  have hlt1 := hln.1
  have hlp1 := hln.2
  refine lv_aload_n hE.1 hE.2.1 dL_law_333 rfl (lv_at hl 2 rfl) ?_
  refine rg_VI (As := []) (rest := [.int ((spFault a).2.1)]) hE hml hH mc_L_94 (c_fault l z G hM iv jv a hSt ) hM.1.1 hM.1.2 (by decide) rfl ⟨Nat.le_of_ble_eq_true rfl, Nat.le_of_ble_eq_true rfl⟩ rfl hl.1 (by simp [Value.category]) dL_law_334 ⟨by show (cells + 0) + 0 ≤ 601024; omega, by show (slots + 0) + 0 ≤ 7293034; omega⟩ (fun r334 G334 iv334 jv334 H locs hp334 hH => ?_)
  obtain ⟨rfl, rfl, ⟨h00, rfl, hSt⟩, hFm⟩ := hp334
  have hC := hCn.fr hFm (Q := fun _ _ => False) FrJ.rf (fun lb j h1 h2 => by simp only [pM] at h2; omega) (fun _ _ _ h => h)
  refine lv_icmp_eq (tgt := 1405) hE.1 hE.2.1 dL_law_337 (by decide) (fun c337 => ?_) (fun c337 => ?_)
  · exact kk _ _ _ _ _ _ _ _ _ hH ⟨hM, hSt, hC, hO⟩ ⟨by show ((cells + 0) + 0) ≤ 200 + 4 * (i + 6) + 60 * (aT (spFault a).2.2).length + 10 * (aP (spFault a).2.2).length; omega, by show ((slots + 0) + 0) ≤ 60000 + 24 * (i + 6) + 83000 * (aT (spFault a).2.2).length + 700 * (aP (spFault a).2.2).length; omega⟩ (lv_sub hl [0, 1, 2, 3, 4] rfl)
  · exact (c337 rfl).elim
set_option maxRecDepth 100000 in
set_option maxHeartbeats 4000000 in
theorem lo_4 {p : Program} {l : Launch} {e : Env} {s : State} {m : MethodId} {below : List Frame} {meth : Method} {c : Code} {D : va_G} {cy : Nat → ClassId} {z : ZK} {b L : Nat} {xs : Nat → Int32} {Q : State → Prop} (hLE : lwE p l s m meth c D cy z b L xs) {i : Nat} (hi : i + 5 < L) {G : GW} {iv : IV} {jv : JV} {a : AS} {H : Heap} {locs : List Loc} {cells slots : Nat} {ls : Array Slot} (hH : HS D cy G (fun q : Nat => s.heap.size ≤ q) s.heap iv jv H locs) (hS : lwS G iv jv a) (hB : lwB i a cells slots) (hl : lv_has ls 7 (lvL G b i)) (kk : ∀ (G' : GW) (iv' : IV) (jv' : JV) (a' : AS) (H' : Heap) (locs' : List Loc) (cells' slots' : Nat) (ls' : Array Slot), HS D cy G' (fun q : Nat => s.heap.size ≤ q) s.heap iv' jv' H' locs' → lwS G' iv' jv' a' → lwB (i + 6) a' cells' slots' → lv_has ls' 7 (lvL G' b i) → W p l e room_1 s m #[Value.ref b] below meth c H' locs' cells' slots' Q (F0 m 1405 ls' [])) : W p l e room_1 s m #[Value.ref b] below meth c H locs cells slots Q (F0 m 342 ls []) := by
  obtain ⟨hE, hml, hXs, hbl, hlt, hL3, hrt, hlk⟩ := hLE
  have hbA : ¬ (fun q : Nat => s.heap.size ≤ q) b := Nat.not_le.mpr hbl
  obtain ⟨hM, hSt, hC, hO⟩ := hS
  obtain ⟨hBc, hBs⟩ := hB
  have hT6 := hC.2.2.2.2.1.2.1
  have hP12 := hC.2.2.2.2.2.1.2.1
  have hl : lv_has ls 7 [(0, .ref b), (1, .ref (G.ad 100)), (2, .ref (G.ad 0)), (3, .ref (G.ad 50)), (4, .int (nI i))] := hl
  refine lv_aload_n hE.1 hE.2.1 dL_law_342 rfl (lv_at hl 1 rfl) ?_
  refine lv_aload_n hE.1 hE.2.1 dL_law_343 rfl (lv_at hl 0 rfl) ?_
  refine lv_iload hE.1 hE.2.1 dL_law_344 (lv_at hl 4 rfl) ?_
  refine lv_iconst (v := nI 1) hE.1 hE.2.1 dL_law_346 (by decide) ?_
  refine rn_iadd hE dL_law_347 ?_
  refine sc_ld (i := i + 1) hE hXs hbl hbA hH (by omega) hL3 dL_law_348 ?_
  refine lv_aload_n hE.1 hE.2.1 dL_law_349 rfl (lv_at hl 0 rfl) ?_
  refine lv_iload hE.1 hE.2.1 dL_law_350 (lv_at hl 4 rfl) ?_
  refine lv_iconst (v := nI 2) hE.1 hE.2.1 dL_law_352 (by decide) ?_
  refine rn_iadd hE dL_law_353 ?_
  refine sc_ld (i := i + 2) hE hXs hbl hbA hH (by omega) hL3 dL_law_354 ?_
  refine lv_aload_n hE.1 hE.2.1 dL_law_355 rfl (lv_at hl 3 rfl) ?_
  refine rh_SI (As := [.ref (G.ad 100), .int (xs (i + 1)), .int (xs (i + 2)), .ref (G.ad 50)]) (rest := []) hE hml hH mc_L_95 (c_L_about l z hlt G iv jv a hC hO (xs (i + 1)) (xs (i + 2))) rfl ⟨Nat.le_of_ble_eq_true rfl, Nat.le_of_ble_eq_true rfl⟩ rfl hl.1 (by simp [Value.category]) dL_law_356 ⟨by show cells + 4 ≤ 601024; omega, by show slots + 24 ≤ 7293034; omega⟩ (fun r356 G356 iv356 jv356 H locs hp356 hH => ?_)
  obtain ⟨hEX, rfl, hov, hCn, hFr, hFj, h3, hln⟩ := hp356
  have hlt1 := hln.1
  have hlp1 := hln.2
  have hl : lv_has ls 7 [(0, .ref b), (1, .ref (G356.ad 100)), (2, .ref (G356.ad 0)), (3, .ref (G356.ad 50)), (4, .int (nI i))] := by rw [hEX.adm hC.1.1.1, hEX.adm hM.1.1, hEX.adm hO.1]; exact hl
  have hM := hM.e hEX (by decide)
  have hSt := hSt.fr hFr (fun lb j h1 h2 => by omega)
  have hO := hO.em hEX
  refine lv_istore (lv' := [(5, .int (nI (spAbout a (xs (i + 1)) (xs (i + 2))).1)), (0, .ref b), (1, .ref (G356.ad 100)), (2, .ref (G356.ad 0)), (3, .ref (G356.ad 50)), (4, .int (nI i))]) hE.1 hE.2.1 dL_law_359 hl (by decide) rfl (fun ls hl => ?_)
  refine lv_aload_n hE.1 hE.2.1 dL_law_361 rfl (lv_at hl 3 rfl) ?_
  refine lv_aload_n hE.1 hE.2.1 dL_law_362 rfl (lv_at hl 1 rfl) ?_
  refine lv_iload hE.1 hE.2.1 dL_law_363 (lv_at hl 5 rfl) ?_
  refine lv_iconst (v := nI 1) hE.1 hE.2.1 dL_law_365 (by decide) ?_
  refine rn_iadd hE dL_law_366 ?_
  refine sc_ld (i := i + 1) hE hXs hbl hbA hH (by omega) hL3 dL_law_367 ?_
  refine lv_aload_n hE.1 hE.2.1 dL_law_368 rfl (lv_at hl 1 rfl) ?_
  refine lv_iload hE.1 hE.2.1 dL_law_369 (lv_at hl 5 rfl) ?_
  refine lv_iconst (v := nI 2) hE.1 hE.2.1 dL_law_371 (by decide) ?_
  refine rn_iadd hE dL_law_372 ?_
  refine sc_ld (i := i + 2) hE hXs hbl hbA hH (by omega) hL3 dL_law_373 ?_
  refine rg_VI (As := [.int (xs (i + 1)), .int (xs (i + 2))]) (rest := []) hE hml hH mc_L_97 (c_about l z G356 hM iv356 jv356 a hSt (xs (i + 1)) (xs (i + 2))) hM.1.1 hM.1.2 (by decide) rfl ⟨Nat.le_of_ble_eq_true rfl, Nat.le_of_ble_eq_true rfl⟩ rfl hl.1 (by simp [Value.category]) dL_law_374 ⟨by show (cells + 4) + 0 ≤ 601024; omega, by show (slots + 24) + 0 ≤ 7293034; omega⟩ (fun r374 G374 iv374 jv374 H locs hp374 hH => ?_)
  obtain ⟨rfl, rfl, ⟨h00, rfl, hSt⟩, hFm⟩ := hp374
  have hC := hCn.fr hFm (Q := fun _ _ => False) FrJ.rf (fun lb j h1 h2 => by simp only [pM] at h2; omega) (fun _ _ _ h => h)
  refine lv_istore (lv' := [(6, .int ((spAbout a (xs (i + 1)) (xs (i + 2))).2.1)), (5, .int (nI (spAbout a (xs (i + 1)) (xs (i + 2))).1)), (0, .ref b), (1, .ref (G356.ad 100)), (2, .ref (G356.ad 0)), (3, .ref (G356.ad 50)), (4, .int (nI i))]) hE.1 hE.2.1 dL_law_377 hl (by decide) rfl (fun ls hl => ?_)
  refine lv_aload_n hE.1 hE.2.1 dL_law_379 rfl (lv_at hl 4 rfl) ?_
  refine rg_VI (As := []) (rest := []) hE hml hH mc_L_83 (c_thrown l z G356 hM iv374 jv356) hM.1.1 hM.1.2 (by decide) rfl ⟨Nat.le_of_ble_eq_true rfl, Nat.le_of_ble_eq_true rfl⟩ rfl hl.1 (by simp [Value.category]) dL_law_380 ⟨by show ((cells + 4) + 0) + 0 ≤ 601024; omega, by show ((slots + 24) + 0) + 0 ≤ 7293034; omega⟩ (fun r380 G380 iv380 jv380 H locs hp380 hH => ?_)
  obtain ⟨rfl, rfl, rfl, rfl⟩ := hp380
  refine rn_as (v' := nI (spAbout a (xs (i + 1)) (xs (i + 2))).1) h00 ?_
  refine lv_iload hE.1 hE.2.1 dL_law_383 (lv_at hl 1 rfl) ?_
  refine lv_icmp_eq (tgt := 390) hE.1 hE.2.1 dL_law_385 (by decide) (fun c385 => ?_) (fun c385 => ?_)
  · refine lv_iload hE.1 hE.2.1 dL_law_390 (lv_at hl 1 rfl) ?_
    refine lv_if_ne (tgt := 407) hE.1 hE.2.1 dL_law_392 (by decide) (fun c392 => ?_) (fun c392 => ?_)
    · refine lv_goto (tgt := 1405) hE.1 hE.2.1 dL_law_407 (by decide) ?_
      exact kk _ _ _ _ _ _ _ _ _ hH ⟨hM, hSt, hC, hO⟩ ⟨by show (((cells + 4) + 0) + 0) ≤ 200 + 4 * (i + 6) + 60 * (aT (spAbout a (xs (i + 1)) (xs (i + 2))).2.2).length + 10 * (aP (spAbout a (xs (i + 1)) (xs (i + 2))).2.2).length; omega, by show (((slots + 24) + 0) + 0) ≤ 60000 + 24 * (i + 6) + 83000 * (aT (spAbout a (xs (i + 1)) (xs (i + 2))).2.2).length + 700 * (aP (spAbout a (xs (i + 1)) (xs (i + 2))).2.2).length; omega⟩ (lv_sub hl [2, 3, 4, 5, 6] rfl)
    · have hz0 : (spAbout a (xs (i + 1)) (xs (i + 2))).1 = 0 := (nI_eq (Nat.lt_trans h3 (by decide)) (by decide)).mp c392
      refine lv_aload_n hE.1 hE.2.1 dL_law_395 rfl (lv_at hl 5 rfl) ?_
      refine lv_iconst (v := nI 0) hE.1 hE.2.1 dL_law_396 (by decide) ?_
      refine rg_lald hE hH (hO.1) (hO.2.1) (by rw [hO.2.2]; decide) (v := (spAbout a (xs (i + 1)) (xs (i + 2))).2.1.toInt64) (hov hz0) dL_law_397 ?_
      refine lv_iload hE.1 hE.2.1 dL_law_398 (lv_at hl 0 rfl) ?_
      refine lv_i2l (v := ((spAbout a (xs (i + 1)) (xs (i + 2))).2.1).toInt64) hE.1 hE.2.1 dL_law_400 rfl ?_
      refine lv_lcmp hE.1 hE.2.1 dL_law_401 ?_
      refine lv_if_eq (tgt := 407) hE.1 hE.2.1 dL_law_402 (by decide) (fun c402 => ?_) (fun c402 => ?_)
      · refine lv_goto (tgt := 1405) hE.1 hE.2.1 dL_law_407 (by decide) ?_
        exact kk _ _ _ _ _ _ _ _ _ hH ⟨hM, hSt, hC, hO⟩ ⟨by show (((cells + 4) + 0) + 0) ≤ 200 + 4 * (i + 6) + 60 * (aT (spAbout a (xs (i + 1)) (xs (i + 2))).2.2).length + 10 * (aP (spAbout a (xs (i + 1)) (xs (i + 2))).2.2).length; omega, by show (((slots + 24) + 0) + 0) ≤ 60000 + 24 * (i + 6) + 83000 * (aT (spAbout a (xs (i + 1)) (xs (i + 2))).2.2).length + 700 * (aP (spAbout a (xs (i + 1)) (xs (i + 2))).2.2).length; omega⟩ (lv_sub hl [2, 3, 4, 5, 6] rfl)
      · exact (c402 lc_self).elim
  · exact (c385 rfl).elim
set_option maxRecDepth 100000 in
set_option maxHeartbeats 4000000 in
theorem lo_5 {p : Program} {l : Launch} {e : Env} {s : State} {m : MethodId} {below : List Frame} {meth : Method} {c : Code} {D : va_G} {cy : Nat → ClassId} {z : ZK} {b L : Nat} {xs : Nat → Int32} {Q : State → Prop} (hLE : lwE p l s m meth c D cy z b L xs) {i : Nat} (hi : i + 5 < L) {G : GW} {iv : IV} {jv : JV} {a : AS} {H : Heap} {locs : List Loc} {cells slots : Nat} {ls : Array Slot} (hH : HS D cy G (fun q : Nat => s.heap.size ≤ q) s.heap iv jv H locs) (hS : lwS G iv jv a) (hB : lwB i a cells slots) (hl : lv_has ls 7 (lvL G b i)) (kk : ∀ (G' : GW) (iv' : IV) (jv' : JV) (a' : AS) (H' : Heap) (locs' : List Loc) (cells' slots' : Nat) (ls' : Array Slot), HS D cy G' (fun q : Nat => s.heap.size ≤ q) s.heap iv' jv' H' locs' → lwS G' iv' jv' a' → lwB (i + 6) a' cells' slots' → lv_has ls' 7 (lvL G' b i) → W p l e room_1 s m #[Value.ref b] below meth c H' locs' cells' slots' Q (F0 m 1405 ls' [])) : W p l e room_1 s m #[Value.ref b] below meth c H locs cells slots Q (F0 m 410 ls []) := by
  obtain ⟨hE, hml, hXs, hbl, hlt, hL3, hrt, hlk⟩ := hLE
  have hbA : ¬ (fun q : Nat => s.heap.size ≤ q) b := Nat.not_le.mpr hbl
  obtain ⟨hM, hSt, hC, hO⟩ := hS
  obtain ⟨hBc, hBs⟩ := hB
  have hT6 := hC.2.2.2.2.1.2.1
  have hP12 := hC.2.2.2.2.2.1.2.1
  have hl : lv_has ls 7 [(0, .ref b), (1, .ref (G.ad 100)), (2, .ref (G.ad 0)), (3, .ref (G.ad 50)), (4, .int (nI i))] := hl
  refine lv_aload_n hE.1 hE.2.1 dL_law_410 rfl (lv_at hl 1 rfl) ?_
  refine lv_aload_n hE.1 hE.2.1 dL_law_411 rfl (lv_at hl 0 rfl) ?_
  refine lv_iload hE.1 hE.2.1 dL_law_412 (lv_at hl 4 rfl) ?_
  refine lv_iconst (v := nI 1) hE.1 hE.2.1 dL_law_414 (by decide) ?_
  refine rn_iadd hE dL_law_415 ?_
  refine sc_ld (i := i + 1) hE hXs hbl hbA hH (by omega) hL3 dL_law_416 ?_
  refine lv_aload_n hE.1 hE.2.1 dL_law_417 rfl (lv_at hl 0 rfl) ?_
  refine lv_iload hE.1 hE.2.1 dL_law_418 (lv_at hl 4 rfl) ?_
  refine lv_iconst (v := nI 2) hE.1 hE.2.1 dL_law_420 (by decide) ?_
  refine rn_iadd hE dL_law_421 ?_
  refine sc_ld (i := i + 2) hE hXs hbl hbA hH (by omega) hL3 dL_law_422 ?_
  refine lv_aload_n hE.1 hE.2.1 dL_law_423 rfl (lv_at hl 0 rfl) ?_
  refine lv_iload hE.1 hE.2.1 dL_law_424 (lv_at hl 4 rfl) ?_
  refine lv_iconst (v := nI 3) hE.1 hE.2.1 dL_law_426 (by decide) ?_
  refine rn_iadd hE dL_law_427 ?_
  refine sc_ld (i := i + 3) hE hXs hbl hbA hH (by omega) hL3 dL_law_428 ?_
  refine lv_aload_n hE.1 hE.2.1 dL_law_429 rfl (lv_at hl 3 rfl) ?_
  refine rh_SI (As := [.ref (G.ad 100), .int (xs (i + 1)), .int (xs (i + 2)), .int (xs (i + 3)), .ref (G.ad 50)]) (rest := []) hE hml hH mc_L_98 (c_L_answer l z hlt G iv jv a hC hO (xs (i + 1)) (xs (i + 2)) (xs (i + 3))) rfl ⟨Nat.le_of_ble_eq_true rfl, Nat.le_of_ble_eq_true rfl⟩ rfl hl.1 (by simp [Value.category]) dL_law_430 ⟨by show cells + 4 ≤ 601024; omega, by show slots + 24 ≤ 7293034; omega⟩ (fun r430 G430 iv430 jv430 H locs hp430 hH => ?_)
  obtain ⟨hEX, rfl, hov, hCn, hFr, hFj, h3, hln⟩ := hp430
  have hlt1 := hln.1
  have hlp1 := hln.2
  have hl : lv_has ls 7 [(0, .ref b), (1, .ref (G430.ad 100)), (2, .ref (G430.ad 0)), (3, .ref (G430.ad 50)), (4, .int (nI i))] := by rw [hEX.adm hC.1.1.1, hEX.adm hM.1.1, hEX.adm hO.1]; exact hl
  have hM := hM.e hEX (by decide)
  have hSt := hSt.fr hFr (fun lb j h1 h2 => by omega)
  have hO := hO.em hEX
  refine lv_istore (lv' := [(5, .int (nI (spAnswer a (xs (i + 1)) (xs (i + 2)) (xs (i + 3))).1)), (0, .ref b), (1, .ref (G430.ad 100)), (2, .ref (G430.ad 0)), (3, .ref (G430.ad 50)), (4, .int (nI i))]) hE.1 hE.2.1 dL_law_433 hl (by decide) rfl (fun ls hl => ?_)
  refine lv_aload_n hE.1 hE.2.1 dL_law_435 rfl (lv_at hl 3 rfl) ?_
  refine lv_aload_n hE.1 hE.2.1 dL_law_436 rfl (lv_at hl 1 rfl) ?_
  refine lv_iload hE.1 hE.2.1 dL_law_437 (lv_at hl 5 rfl) ?_
  refine lv_iconst (v := nI 1) hE.1 hE.2.1 dL_law_439 (by decide) ?_
  refine rn_iadd hE dL_law_440 ?_
  refine sc_ld (i := i + 1) hE hXs hbl hbA hH (by omega) hL3 dL_law_441 ?_
  refine lv_aload_n hE.1 hE.2.1 dL_law_442 rfl (lv_at hl 1 rfl) ?_
  refine lv_iload hE.1 hE.2.1 dL_law_443 (lv_at hl 5 rfl) ?_
  refine lv_iconst (v := nI 2) hE.1 hE.2.1 dL_law_445 (by decide) ?_
  refine rn_iadd hE dL_law_446 ?_
  refine sc_ld (i := i + 2) hE hXs hbl hbA hH (by omega) hL3 dL_law_447 ?_
  refine lv_aload_n hE.1 hE.2.1 dL_law_448 rfl (lv_at hl 1 rfl) ?_
  refine lv_iload hE.1 hE.2.1 dL_law_449 (lv_at hl 5 rfl) ?_
  refine lv_iconst (v := nI 3) hE.1 hE.2.1 dL_law_451 (by decide) ?_
  refine rn_iadd hE dL_law_452 ?_
  refine sc_ld (i := i + 3) hE hXs hbl hbA hH (by omega) hL3 dL_law_453 ?_
  refine rg_VI (As := [.int (xs (i + 1)), .int (xs (i + 2)), .int (xs (i + 3))]) (rest := []) hE hml hH mc_L_101 (c_answer l z G430 hM iv430 jv430 a hSt (xs (i + 1)) (xs (i + 2)) (xs (i + 3))) hM.1.1 hM.1.2 (by decide) rfl ⟨Nat.le_of_ble_eq_true rfl, Nat.le_of_ble_eq_true rfl⟩ rfl hl.1 (by simp [Value.category]) dL_law_454 ⟨by show (cells + 4) + 0 ≤ 601024; omega, by show (slots + 24) + 0 ≤ 7293034; omega⟩ (fun r454 G454 iv454 jv454 H locs hp454 hH => ?_)
  obtain ⟨rfl, rfl, ⟨h00, rfl, hSt⟩, hFm⟩ := hp454
  have hC := hCn.fr hFm (Q := fun _ _ => False) FrJ.rf (fun lb j h1 h2 => by simp only [pM] at h2; omega) (fun _ _ _ h => h)
  refine lv_istore (lv' := [(6, .int ((spAnswer a (xs (i + 1)) (xs (i + 2)) (xs (i + 3))).2.1)), (5, .int (nI (spAnswer a (xs (i + 1)) (xs (i + 2)) (xs (i + 3))).1)), (0, .ref b), (1, .ref (G430.ad 100)), (2, .ref (G430.ad 0)), (3, .ref (G430.ad 50)), (4, .int (nI i))]) hE.1 hE.2.1 dL_law_457 hl (by decide) rfl (fun ls hl => ?_)
  refine lv_aload_n hE.1 hE.2.1 dL_law_459 rfl (lv_at hl 4 rfl) ?_
  refine rg_VI (As := []) (rest := []) hE hml hH mc_L_83 (c_thrown l z G430 hM iv454 jv430) hM.1.1 hM.1.2 (by decide) rfl ⟨Nat.le_of_ble_eq_true rfl, Nat.le_of_ble_eq_true rfl⟩ rfl hl.1 (by simp [Value.category]) dL_law_460 ⟨by show ((cells + 4) + 0) + 0 ≤ 601024; omega, by show ((slots + 24) + 0) + 0 ≤ 7293034; omega⟩ (fun r460 G460 iv460 jv460 H locs hp460 hH => ?_)
  obtain ⟨rfl, rfl, rfl, rfl⟩ := hp460
  refine rn_as (v' := nI (spAnswer a (xs (i + 1)) (xs (i + 2)) (xs (i + 3))).1) h00 ?_
  refine lv_iload hE.1 hE.2.1 dL_law_463 (lv_at hl 1 rfl) ?_
  refine lv_icmp_eq (tgt := 470) hE.1 hE.2.1 dL_law_465 (by decide) (fun c465 => ?_) (fun c465 => ?_)
  · refine lv_iload hE.1 hE.2.1 dL_law_470 (lv_at hl 1 rfl) ?_
    refine lv_if_ne (tgt := 487) hE.1 hE.2.1 dL_law_472 (by decide) (fun c472 => ?_) (fun c472 => ?_)
    · refine lv_goto (tgt := 1405) hE.1 hE.2.1 dL_law_487 (by decide) ?_
      exact kk _ _ _ _ _ _ _ _ _ hH ⟨hM, hSt, hC, hO⟩ ⟨by show (((cells + 4) + 0) + 0) ≤ 200 + 4 * (i + 6) + 60 * (aT (spAnswer a (xs (i + 1)) (xs (i + 2)) (xs (i + 3))).2.2).length + 10 * (aP (spAnswer a (xs (i + 1)) (xs (i + 2)) (xs (i + 3))).2.2).length; omega, by show (((slots + 24) + 0) + 0) ≤ 60000 + 24 * (i + 6) + 83000 * (aT (spAnswer a (xs (i + 1)) (xs (i + 2)) (xs (i + 3))).2.2).length + 700 * (aP (spAnswer a (xs (i + 1)) (xs (i + 2)) (xs (i + 3))).2.2).length; omega⟩ (lv_sub hl [2, 3, 4, 5, 6] rfl)
    · have hz0 : (spAnswer a (xs (i + 1)) (xs (i + 2)) (xs (i + 3))).1 = 0 := (nI_eq (Nat.lt_trans h3 (by decide)) (by decide)).mp c472
      refine lv_aload_n hE.1 hE.2.1 dL_law_475 rfl (lv_at hl 5 rfl) ?_
      refine lv_iconst (v := nI 0) hE.1 hE.2.1 dL_law_476 (by decide) ?_
      refine rg_lald hE hH (hO.1) (hO.2.1) (by rw [hO.2.2]; decide) (v := (spAnswer a (xs (i + 1)) (xs (i + 2)) (xs (i + 3))).2.1.toInt64) (hov hz0) dL_law_477 ?_
      refine lv_iload hE.1 hE.2.1 dL_law_478 (lv_at hl 0 rfl) ?_
      refine lv_i2l (v := ((spAnswer a (xs (i + 1)) (xs (i + 2)) (xs (i + 3))).2.1).toInt64) hE.1 hE.2.1 dL_law_480 rfl ?_
      refine lv_lcmp hE.1 hE.2.1 dL_law_481 ?_
      refine lv_if_eq (tgt := 487) hE.1 hE.2.1 dL_law_482 (by decide) (fun c482 => ?_) (fun c482 => ?_)
      · refine lv_goto (tgt := 1405) hE.1 hE.2.1 dL_law_487 (by decide) ?_
        exact kk _ _ _ _ _ _ _ _ _ hH ⟨hM, hSt, hC, hO⟩ ⟨by show (((cells + 4) + 0) + 0) ≤ 200 + 4 * (i + 6) + 60 * (aT (spAnswer a (xs (i + 1)) (xs (i + 2)) (xs (i + 3))).2.2).length + 10 * (aP (spAnswer a (xs (i + 1)) (xs (i + 2)) (xs (i + 3))).2.2).length; omega, by show (((slots + 24) + 0) + 0) ≤ 60000 + 24 * (i + 6) + 83000 * (aT (spAnswer a (xs (i + 1)) (xs (i + 2)) (xs (i + 3))).2.2).length + 700 * (aP (spAnswer a (xs (i + 1)) (xs (i + 2)) (xs (i + 3))).2.2).length; omega⟩ (lv_sub hl [2, 3, 4, 5, 6] rfl)
      · exact (c482 lc_self).elim
  · exact (c465 rfl).elim
set_option maxRecDepth 100000 in
set_option maxHeartbeats 4000000 in
theorem lo_6 {p : Program} {l : Launch} {e : Env} {s : State} {m : MethodId} {below : List Frame} {meth : Method} {c : Code} {D : va_G} {cy : Nat → ClassId} {z : ZK} {b L : Nat} {xs : Nat → Int32} {Q : State → Prop} (hLE : lwE p l s m meth c D cy z b L xs) {i : Nat} (hi : i + 5 < L) {G : GW} {iv : IV} {jv : JV} {a : AS} {H : Heap} {locs : List Loc} {cells slots : Nat} {ls : Array Slot} (hH : HS D cy G (fun q : Nat => s.heap.size ≤ q) s.heap iv jv H locs) (hS : lwS G iv jv a) (hB : lwB i a cells slots) (hl : lv_has ls 7 (lvL G b i)) (kk : ∀ (G' : GW) (iv' : IV) (jv' : JV) (a' : AS) (H' : Heap) (locs' : List Loc) (cells' slots' : Nat) (ls' : Array Slot), HS D cy G' (fun q : Nat => s.heap.size ≤ q) s.heap iv' jv' H' locs' → lwS G' iv' jv' a' → lwB (i + 6) a' cells' slots' → lv_has ls' 7 (lvL G' b i) → W p l e room_1 s m #[Value.ref b] below meth c H' locs' cells' slots' Q (F0 m 1405 ls' [])) : W p l e room_1 s m #[Value.ref b] below meth c H locs cells slots Q (F0 m 490 ls []) := by
  obtain ⟨hE, hml, hXs, hbl, hlt, hL3, hrt, hlk⟩ := hLE
  have hbA : ¬ (fun q : Nat => s.heap.size ≤ q) b := Nat.not_le.mpr hbl
  obtain ⟨hM, hSt, hC, hO⟩ := hS
  obtain ⟨hBc, hBs⟩ := hB
  have hT6 := hC.2.2.2.2.1.2.1
  have hP12 := hC.2.2.2.2.2.1.2.1
  have hl : lv_has ls 7 [(0, .ref b), (1, .ref (G.ad 100)), (2, .ref (G.ad 0)), (3, .ref (G.ad 50)), (4, .int (nI i))] := hl
  refine lv_aload_n hE.1 hE.2.1 dL_law_490 rfl (lv_at hl 1 rfl) ?_
  refine lv_aload_n hE.1 hE.2.1 dL_law_491 rfl (lv_at hl 0 rfl) ?_
  refine lv_iload hE.1 hE.2.1 dL_law_492 (lv_at hl 4 rfl) ?_
  refine lv_iconst (v := nI 1) hE.1 hE.2.1 dL_law_494 (by decide) ?_
  refine rn_iadd hE dL_law_495 ?_
  refine sc_ld (i := i + 1) hE hXs hbl hbA hH (by omega) hL3 dL_law_496 ?_
  refine lv_aload_n hE.1 hE.2.1 dL_law_497 rfl (lv_at hl 0 rfl) ?_
  refine lv_iload hE.1 hE.2.1 dL_law_498 (lv_at hl 4 rfl) ?_
  refine lv_iconst (v := nI 2) hE.1 hE.2.1 dL_law_500 (by decide) ?_
  refine rn_iadd hE dL_law_501 ?_
  refine sc_ld (i := i + 2) hE hXs hbl hbA hH (by omega) hL3 dL_law_502 ?_
  refine lv_aload_n hE.1 hE.2.1 dL_law_503 rfl (lv_at hl 0 rfl) ?_
  refine lv_iload hE.1 hE.2.1 dL_law_504 (lv_at hl 4 rfl) ?_
  refine lv_iconst (v := nI 3) hE.1 hE.2.1 dL_law_506 (by decide) ?_
  refine rn_iadd hE dL_law_507 ?_
  refine sc_ld (i := i + 3) hE hXs hbl hbA hH (by omega) hL3 dL_law_508 ?_
  refine lv_aload_n hE.1 hE.2.1 dL_law_509 rfl (lv_at hl 3 rfl) ?_
  refine rh_SI (As := [.ref (G.ad 100), .int (xs (i + 1)), .int (xs (i + 2)), .int (xs (i + 3)), .ref (G.ad 50)]) (rest := []) hE hml hH mc_L_102 (c_L_value l z hlt G iv jv a hC hO (xs (i + 1)) (xs (i + 2)) (xs (i + 3))) rfl ⟨Nat.le_of_ble_eq_true rfl, Nat.le_of_ble_eq_true rfl⟩ rfl hl.1 (by simp [Value.category]) dL_law_510 ⟨by show cells + 4 ≤ 601024; omega, by show slots + 24 ≤ 7293034; omega⟩ (fun r510 G510 iv510 jv510 H locs hp510 hH => ?_)
  obtain ⟨hEX, rfl, hov, hCn, hFr, hFj, h3, hln⟩ := hp510
  have hlt1 := hln.1
  have hlp1 := hln.2
  have hl : lv_has ls 7 [(0, .ref b), (1, .ref (G510.ad 100)), (2, .ref (G510.ad 0)), (3, .ref (G510.ad 50)), (4, .int (nI i))] := by rw [hEX.adm hC.1.1.1, hEX.adm hM.1.1, hEX.adm hO.1]; exact hl
  have hM := hM.e hEX (by decide)
  have hSt := hSt.fr hFr (fun lb j h1 h2 => by omega)
  have hO := hO.em hEX
  refine lv_istore (lv' := [(5, .int (nI (spValue a (xs (i + 1)) (xs (i + 2)) (xs (i + 3))).1)), (0, .ref b), (1, .ref (G510.ad 100)), (2, .ref (G510.ad 0)), (3, .ref (G510.ad 50)), (4, .int (nI i))]) hE.1 hE.2.1 dL_law_513 hl (by decide) rfl (fun ls hl => ?_)
  refine lv_aload_n hE.1 hE.2.1 dL_law_515 rfl (lv_at hl 3 rfl) ?_
  refine lv_aload_n hE.1 hE.2.1 dL_law_516 rfl (lv_at hl 1 rfl) ?_
  refine lv_iload hE.1 hE.2.1 dL_law_517 (lv_at hl 5 rfl) ?_
  refine lv_iconst (v := nI 1) hE.1 hE.2.1 dL_law_519 (by decide) ?_
  refine rn_iadd hE dL_law_520 ?_
  refine sc_ld (i := i + 1) hE hXs hbl hbA hH (by omega) hL3 dL_law_521 ?_
  refine lv_aload_n hE.1 hE.2.1 dL_law_522 rfl (lv_at hl 1 rfl) ?_
  refine lv_iload hE.1 hE.2.1 dL_law_523 (lv_at hl 5 rfl) ?_
  refine lv_iconst (v := nI 2) hE.1 hE.2.1 dL_law_525 (by decide) ?_
  refine rn_iadd hE dL_law_526 ?_
  refine sc_ld (i := i + 2) hE hXs hbl hbA hH (by omega) hL3 dL_law_527 ?_
  refine lv_aload_n hE.1 hE.2.1 dL_law_528 rfl (lv_at hl 1 rfl) ?_
  refine lv_iload hE.1 hE.2.1 dL_law_529 (lv_at hl 5 rfl) ?_
  refine lv_iconst (v := nI 3) hE.1 hE.2.1 dL_law_531 (by decide) ?_
  refine rn_iadd hE dL_law_532 ?_
  refine sc_ld (i := i + 3) hE hXs hbl hbA hH (by omega) hL3 dL_law_533 ?_
  refine rg_VI (As := [.int (xs (i + 1)), .int (xs (i + 2)), .int (xs (i + 3))]) (rest := []) hE hml hH mc_L_104 (c_value l z G510 hM iv510 jv510 a hSt (xs (i + 1)) (xs (i + 2)) (xs (i + 3))) hM.1.1 hM.1.2 (by decide) rfl ⟨Nat.le_of_ble_eq_true rfl, Nat.le_of_ble_eq_true rfl⟩ rfl hl.1 (by simp [Value.category]) dL_law_534 ⟨by show (cells + 4) + 0 ≤ 601024; omega, by show (slots + 24) + 0 ≤ 7293034; omega⟩ (fun r534 G534 iv534 jv534 H locs hp534 hH => ?_)
  obtain ⟨rfl, rfl, ⟨h00, rfl, hSt⟩, hFm⟩ := hp534
  have hC := hCn.fr hFm (Q := fun _ _ => False) FrJ.rf (fun lb j h1 h2 => by simp only [pM] at h2; omega) (fun _ _ _ h => h)
  refine lv_istore (lv' := [(6, .int ((spValue a (xs (i + 1)) (xs (i + 2)) (xs (i + 3))).2.1)), (5, .int (nI (spValue a (xs (i + 1)) (xs (i + 2)) (xs (i + 3))).1)), (0, .ref b), (1, .ref (G510.ad 100)), (2, .ref (G510.ad 0)), (3, .ref (G510.ad 50)), (4, .int (nI i))]) hE.1 hE.2.1 dL_law_537 hl (by decide) rfl (fun ls hl => ?_)
  refine lv_aload_n hE.1 hE.2.1 dL_law_539 rfl (lv_at hl 4 rfl) ?_
  refine rg_VI (As := []) (rest := []) hE hml hH mc_L_83 (c_thrown l z G510 hM iv534 jv510) hM.1.1 hM.1.2 (by decide) rfl ⟨Nat.le_of_ble_eq_true rfl, Nat.le_of_ble_eq_true rfl⟩ rfl hl.1 (by simp [Value.category]) dL_law_540 ⟨by show ((cells + 4) + 0) + 0 ≤ 601024; omega, by show ((slots + 24) + 0) + 0 ≤ 7293034; omega⟩ (fun r540 G540 iv540 jv540 H locs hp540 hH => ?_)
  obtain ⟨rfl, rfl, rfl, rfl⟩ := hp540
  refine rn_as (v' := nI (spValue a (xs (i + 1)) (xs (i + 2)) (xs (i + 3))).1) h00 ?_
  refine lv_iload hE.1 hE.2.1 dL_law_543 (lv_at hl 1 rfl) ?_
  refine lv_icmp_eq (tgt := 550) hE.1 hE.2.1 dL_law_545 (by decide) (fun c545 => ?_) (fun c545 => ?_)
  · refine lv_iload hE.1 hE.2.1 dL_law_550 (lv_at hl 1 rfl) ?_
    refine lv_if_ne (tgt := 567) hE.1 hE.2.1 dL_law_552 (by decide) (fun c552 => ?_) (fun c552 => ?_)
    · refine lv_goto (tgt := 1405) hE.1 hE.2.1 dL_law_567 (by decide) ?_
      exact kk _ _ _ _ _ _ _ _ _ hH ⟨hM, hSt, hC, hO⟩ ⟨by show (((cells + 4) + 0) + 0) ≤ 200 + 4 * (i + 6) + 60 * (aT (spValue a (xs (i + 1)) (xs (i + 2)) (xs (i + 3))).2.2).length + 10 * (aP (spValue a (xs (i + 1)) (xs (i + 2)) (xs (i + 3))).2.2).length; omega, by show (((slots + 24) + 0) + 0) ≤ 60000 + 24 * (i + 6) + 83000 * (aT (spValue a (xs (i + 1)) (xs (i + 2)) (xs (i + 3))).2.2).length + 700 * (aP (spValue a (xs (i + 1)) (xs (i + 2)) (xs (i + 3))).2.2).length; omega⟩ (lv_sub hl [2, 3, 4, 5, 6] rfl)
    · have hz0 : (spValue a (xs (i + 1)) (xs (i + 2)) (xs (i + 3))).1 = 0 := (nI_eq (Nat.lt_trans h3 (by decide)) (by decide)).mp c552
      refine lv_aload_n hE.1 hE.2.1 dL_law_555 rfl (lv_at hl 5 rfl) ?_
      refine lv_iconst (v := nI 0) hE.1 hE.2.1 dL_law_556 (by decide) ?_
      refine rg_lald hE hH (hO.1) (hO.2.1) (by rw [hO.2.2]; decide) (v := (spValue a (xs (i + 1)) (xs (i + 2)) (xs (i + 3))).2.1.toInt64) (hov hz0) dL_law_557 ?_
      refine lv_iload hE.1 hE.2.1 dL_law_558 (lv_at hl 0 rfl) ?_
      refine lv_i2l (v := ((spValue a (xs (i + 1)) (xs (i + 2)) (xs (i + 3))).2.1).toInt64) hE.1 hE.2.1 dL_law_560 rfl ?_
      refine lv_lcmp hE.1 hE.2.1 dL_law_561 ?_
      refine lv_if_eq (tgt := 567) hE.1 hE.2.1 dL_law_562 (by decide) (fun c562 => ?_) (fun c562 => ?_)
      · refine lv_goto (tgt := 1405) hE.1 hE.2.1 dL_law_567 (by decide) ?_
        exact kk _ _ _ _ _ _ _ _ _ hH ⟨hM, hSt, hC, hO⟩ ⟨by show (((cells + 4) + 0) + 0) ≤ 200 + 4 * (i + 6) + 60 * (aT (spValue a (xs (i + 1)) (xs (i + 2)) (xs (i + 3))).2.2).length + 10 * (aP (spValue a (xs (i + 1)) (xs (i + 2)) (xs (i + 3))).2.2).length; omega, by show (((slots + 24) + 0) + 0) ≤ 60000 + 24 * (i + 6) + 83000 * (aT (spValue a (xs (i + 1)) (xs (i + 2)) (xs (i + 3))).2.2).length + 700 * (aP (spValue a (xs (i + 1)) (xs (i + 2)) (xs (i + 3))).2.2).length; omega⟩ (lv_sub hl [2, 3, 4, 5, 6] rfl)
      · exact (c562 lc_self).elim
  · exact (c545 rfl).elim
set_option maxRecDepth 100000 in
set_option maxHeartbeats 4000000 in
theorem lo_7 {p : Program} {l : Launch} {e : Env} {s : State} {m : MethodId} {below : List Frame} {meth : Method} {c : Code} {D : va_G} {cy : Nat → ClassId} {z : ZK} {b L : Nat} {xs : Nat → Int32} {Q : State → Prop} (hLE : lwE p l s m meth c D cy z b L xs) {i : Nat} (hi : i + 5 < L) {G : GW} {iv : IV} {jv : JV} {a : AS} {H : Heap} {locs : List Loc} {cells slots : Nat} {ls : Array Slot} (hH : HS D cy G (fun q : Nat => s.heap.size ≤ q) s.heap iv jv H locs) (hS : lwS G iv jv a) (hB : lwB i a cells slots) (hl : lv_has ls 7 (lvL G b i)) (kk : ∀ (G' : GW) (iv' : IV) (jv' : JV) (a' : AS) (H' : Heap) (locs' : List Loc) (cells' slots' : Nat) (ls' : Array Slot), HS D cy G' (fun q : Nat => s.heap.size ≤ q) s.heap iv' jv' H' locs' → lwS G' iv' jv' a' → lwB (i + 6) a' cells' slots' → lv_has ls' 7 (lvL G' b i) → W p l e room_1 s m #[Value.ref b] below meth c H' locs' cells' slots' Q (F0 m 1405 ls' [])) : W p l e room_1 s m #[Value.ref b] below meth c H locs cells slots Q (F0 m 570 ls []) := by
  obtain ⟨hE, hml, hXs, hbl, hlt, hL3, hrt, hlk⟩ := hLE
  have hbA : ¬ (fun q : Nat => s.heap.size ≤ q) b := Nat.not_le.mpr hbl
  obtain ⟨hM, hSt, hC, hO⟩ := hS
  obtain ⟨hBc, hBs⟩ := hB
  have hT6 := hC.2.2.2.2.1.2.1
  have hP12 := hC.2.2.2.2.2.1.2.1
  have hl : lv_has ls 7 [(0, .ref b), (1, .ref (G.ad 100)), (2, .ref (G.ad 0)), (3, .ref (G.ad 50)), (4, .int (nI i))] := hl
  refine lv_aload_n hE.1 hE.2.1 dL_law_570 rfl (lv_at hl 1 rfl) ?_
  refine lv_aload_n hE.1 hE.2.1 dL_law_571 rfl (lv_at hl 0 rfl) ?_
  refine lv_iload hE.1 hE.2.1 dL_law_572 (lv_at hl 4 rfl) ?_
  refine lv_iconst (v := nI 1) hE.1 hE.2.1 dL_law_574 (by decide) ?_
  refine rn_iadd hE dL_law_575 ?_
  refine sc_ld (i := i + 1) hE hXs hbl hbA hH (by omega) hL3 dL_law_576 ?_
  refine lv_aload_n hE.1 hE.2.1 dL_law_577 rfl (lv_at hl 0 rfl) ?_
  refine lv_iload hE.1 hE.2.1 dL_law_578 (lv_at hl 4 rfl) ?_
  refine lv_iconst (v := nI 2) hE.1 hE.2.1 dL_law_580 (by decide) ?_
  refine rn_iadd hE dL_law_581 ?_
  refine sc_ld (i := i + 2) hE hXs hbl hbA hH (by omega) hL3 dL_law_582 ?_
  refine lv_aload_n hE.1 hE.2.1 dL_law_583 rfl (lv_at hl 3 rfl) ?_
  refine rh_SI (As := [.ref (G.ad 100), .int (xs (i + 1)), .int (xs (i + 2)), .ref (G.ad 50)]) (rest := []) hE hml hH mc_L_105 (c_L_hole l z hlt G iv jv a hC hO (xs (i + 1)) (xs (i + 2))) rfl ⟨Nat.le_of_ble_eq_true rfl, Nat.le_of_ble_eq_true rfl⟩ rfl hl.1 (by simp [Value.category]) dL_law_584 ⟨by show cells + 4 ≤ 601024; omega, by show slots + 24 ≤ 7293034; omega⟩ (fun r584 G584 iv584 jv584 H locs hp584 hH => ?_)
  obtain ⟨hEX, rfl, hov, hCn, hFr, hFj, h3, hln⟩ := hp584
  have hlt1 := hln.1
  have hlp1 := hln.2
  have hl : lv_has ls 7 [(0, .ref b), (1, .ref (G584.ad 100)), (2, .ref (G584.ad 0)), (3, .ref (G584.ad 50)), (4, .int (nI i))] := by rw [hEX.adm hC.1.1.1, hEX.adm hM.1.1, hEX.adm hO.1]; exact hl
  have hM := hM.e hEX (by decide)
  have hSt := hSt.fr hFr (fun lb j h1 h2 => by omega)
  have hO := hO.em hEX
  refine lv_istore (lv' := [(5, .int (nI (spHole a (xs (i + 1)) (xs (i + 2))).1)), (0, .ref b), (1, .ref (G584.ad 100)), (2, .ref (G584.ad 0)), (3, .ref (G584.ad 50)), (4, .int (nI i))]) hE.1 hE.2.1 dL_law_587 hl (by decide) rfl (fun ls hl => ?_)
  refine lv_aload_n hE.1 hE.2.1 dL_law_589 rfl (lv_at hl 3 rfl) ?_
  refine lv_aload_n hE.1 hE.2.1 dL_law_590 rfl (lv_at hl 1 rfl) ?_
  refine lv_iload hE.1 hE.2.1 dL_law_591 (lv_at hl 5 rfl) ?_
  refine lv_iconst (v := nI 1) hE.1 hE.2.1 dL_law_593 (by decide) ?_
  refine rn_iadd hE dL_law_594 ?_
  refine sc_ld (i := i + 1) hE hXs hbl hbA hH (by omega) hL3 dL_law_595 ?_
  refine lv_aload_n hE.1 hE.2.1 dL_law_596 rfl (lv_at hl 1 rfl) ?_
  refine lv_iload hE.1 hE.2.1 dL_law_597 (lv_at hl 5 rfl) ?_
  refine lv_iconst (v := nI 2) hE.1 hE.2.1 dL_law_599 (by decide) ?_
  refine rn_iadd hE dL_law_600 ?_
  refine sc_ld (i := i + 2) hE hXs hbl hbA hH (by omega) hL3 dL_law_601 ?_
  refine rg_VI (As := [.int (xs (i + 1)), .int (xs (i + 2))]) (rest := []) hE hml hH mc_L_107 (c_hole l z G584 hM iv584 jv584 a hSt (xs (i + 1)) (xs (i + 2))) hM.1.1 hM.1.2 (by decide) rfl ⟨Nat.le_of_ble_eq_true rfl, Nat.le_of_ble_eq_true rfl⟩ rfl hl.1 (by simp [Value.category]) dL_law_602 ⟨by show (cells + 4) + 0 ≤ 601024; omega, by show (slots + 24) + 0 ≤ 7293034; omega⟩ (fun r602 G602 iv602 jv602 H locs hp602 hH => ?_)
  obtain ⟨rfl, rfl, ⟨h00, rfl, hSt⟩, hFm⟩ := hp602
  have hC := hCn.fr hFm (Q := fun _ _ => False) FrJ.rf (fun lb j h1 h2 => by simp only [pM] at h2; omega) (fun _ _ _ h => h)
  refine lv_istore (lv' := [(6, .int ((spHole a (xs (i + 1)) (xs (i + 2))).2.1)), (5, .int (nI (spHole a (xs (i + 1)) (xs (i + 2))).1)), (0, .ref b), (1, .ref (G584.ad 100)), (2, .ref (G584.ad 0)), (3, .ref (G584.ad 50)), (4, .int (nI i))]) hE.1 hE.2.1 dL_law_605 hl (by decide) rfl (fun ls hl => ?_)
  refine lv_aload_n hE.1 hE.2.1 dL_law_607 rfl (lv_at hl 4 rfl) ?_
  refine rg_VI (As := []) (rest := []) hE hml hH mc_L_83 (c_thrown l z G584 hM iv602 jv584) hM.1.1 hM.1.2 (by decide) rfl ⟨Nat.le_of_ble_eq_true rfl, Nat.le_of_ble_eq_true rfl⟩ rfl hl.1 (by simp [Value.category]) dL_law_608 ⟨by show ((cells + 4) + 0) + 0 ≤ 601024; omega, by show ((slots + 24) + 0) + 0 ≤ 7293034; omega⟩ (fun r608 G608 iv608 jv608 H locs hp608 hH => ?_)
  obtain ⟨rfl, rfl, rfl, rfl⟩ := hp608
  refine rn_as (v' := nI (spHole a (xs (i + 1)) (xs (i + 2))).1) h00 ?_
  refine lv_iload hE.1 hE.2.1 dL_law_611 (lv_at hl 1 rfl) ?_
  refine lv_icmp_eq (tgt := 618) hE.1 hE.2.1 dL_law_613 (by decide) (fun c613 => ?_) (fun c613 => ?_)
  · refine lv_iload hE.1 hE.2.1 dL_law_618 (lv_at hl 1 rfl) ?_
    refine lv_if_ne (tgt := 635) hE.1 hE.2.1 dL_law_620 (by decide) (fun c620 => ?_) (fun c620 => ?_)
    · refine lv_goto (tgt := 1405) hE.1 hE.2.1 dL_law_635 (by decide) ?_
      exact kk _ _ _ _ _ _ _ _ _ hH ⟨hM, hSt, hC, hO⟩ ⟨by show (((cells + 4) + 0) + 0) ≤ 200 + 4 * (i + 6) + 60 * (aT (spHole a (xs (i + 1)) (xs (i + 2))).2.2).length + 10 * (aP (spHole a (xs (i + 1)) (xs (i + 2))).2.2).length; omega, by show (((slots + 24) + 0) + 0) ≤ 60000 + 24 * (i + 6) + 83000 * (aT (spHole a (xs (i + 1)) (xs (i + 2))).2.2).length + 700 * (aP (spHole a (xs (i + 1)) (xs (i + 2))).2.2).length; omega⟩ (lv_sub hl [2, 3, 4, 5, 6] rfl)
    · have hz0 : (spHole a (xs (i + 1)) (xs (i + 2))).1 = 0 := (nI_eq (Nat.lt_trans h3 (by decide)) (by decide)).mp c620
      refine lv_aload_n hE.1 hE.2.1 dL_law_623 rfl (lv_at hl 5 rfl) ?_
      refine lv_iconst (v := nI 0) hE.1 hE.2.1 dL_law_624 (by decide) ?_
      refine rg_lald hE hH (hO.1) (hO.2.1) (by rw [hO.2.2]; decide) (v := (spHole a (xs (i + 1)) (xs (i + 2))).2.1.toInt64) (hov hz0) dL_law_625 ?_
      refine lv_iload hE.1 hE.2.1 dL_law_626 (lv_at hl 0 rfl) ?_
      refine lv_i2l (v := ((spHole a (xs (i + 1)) (xs (i + 2))).2.1).toInt64) hE.1 hE.2.1 dL_law_628 rfl ?_
      refine lv_lcmp hE.1 hE.2.1 dL_law_629 ?_
      refine lv_if_eq (tgt := 635) hE.1 hE.2.1 dL_law_630 (by decide) (fun c630 => ?_) (fun c630 => ?_)
      · refine lv_goto (tgt := 1405) hE.1 hE.2.1 dL_law_635 (by decide) ?_
        exact kk _ _ _ _ _ _ _ _ _ hH ⟨hM, hSt, hC, hO⟩ ⟨by show (((cells + 4) + 0) + 0) ≤ 200 + 4 * (i + 6) + 60 * (aT (spHole a (xs (i + 1)) (xs (i + 2))).2.2).length + 10 * (aP (spHole a (xs (i + 1)) (xs (i + 2))).2.2).length; omega, by show (((slots + 24) + 0) + 0) ≤ 60000 + 24 * (i + 6) + 83000 * (aT (spHole a (xs (i + 1)) (xs (i + 2))).2.2).length + 700 * (aP (spHole a (xs (i + 1)) (xs (i + 2))).2.2).length; omega⟩ (lv_sub hl [2, 3, 4, 5, 6] rfl)
      · exact (c630 lc_self).elim
  · exact (c613 rfl).elim
set_option maxRecDepth 100000 in
set_option maxHeartbeats 4000000 in
theorem lo_8 {p : Program} {l : Launch} {e : Env} {s : State} {m : MethodId} {below : List Frame} {meth : Method} {c : Code} {D : va_G} {cy : Nat → ClassId} {z : ZK} {b L : Nat} {xs : Nat → Int32} {Q : State → Prop} (hLE : lwE p l s m meth c D cy z b L xs) {i : Nat} (hi : i + 5 < L) {G : GW} {iv : IV} {jv : JV} {a : AS} {H : Heap} {locs : List Loc} {cells slots : Nat} {ls : Array Slot} (hH : HS D cy G (fun q : Nat => s.heap.size ≤ q) s.heap iv jv H locs) (hS : lwS G iv jv a) (hB : lwB i a cells slots) (hl : lv_has ls 7 (lvL G b i)) (kk : ∀ (G' : GW) (iv' : IV) (jv' : JV) (a' : AS) (H' : Heap) (locs' : List Loc) (cells' slots' : Nat) (ls' : Array Slot), HS D cy G' (fun q : Nat => s.heap.size ≤ q) s.heap iv' jv' H' locs' → lwS G' iv' jv' a' → lwB (i + 6) a' cells' slots' → lv_has ls' 7 (lvL G' b i) → W p l e room_1 s m #[Value.ref b] below meth c H' locs' cells' slots' Q (F0 m 1405 ls' [])) : W p l e room_1 s m #[Value.ref b] below meth c H locs cells slots Q (F0 m 638 ls []) := by
  obtain ⟨hE, hml, hXs, hbl, hlt, hL3, hrt, hlk⟩ := hLE
  have hbA : ¬ (fun q : Nat => s.heap.size ≤ q) b := Nat.not_le.mpr hbl
  obtain ⟨hM, hSt, hC, hO⟩ := hS
  obtain ⟨hBc, hBs⟩ := hB
  have hT6 := hC.2.2.2.2.1.2.1
  have hP12 := hC.2.2.2.2.2.1.2.1
  have hl : lv_has ls 7 [(0, .ref b), (1, .ref (G.ad 100)), (2, .ref (G.ad 0)), (3, .ref (G.ad 50)), (4, .int (nI i))] := hl
  refine lv_aload_n hE.1 hE.2.1 dL_law_638 rfl (lv_at hl 1 rfl) ?_
  refine lv_aload_n hE.1 hE.2.1 dL_law_639 rfl (lv_at hl 0 rfl) ?_
  refine lv_iload hE.1 hE.2.1 dL_law_640 (lv_at hl 4 rfl) ?_
  refine lv_iconst (v := nI 1) hE.1 hE.2.1 dL_law_642 (by decide) ?_
  refine rn_iadd hE dL_law_643 ?_
  refine sc_ld (i := i + 1) hE hXs hbl hbA hH (by omega) hL3 dL_law_644 ?_
  refine lv_aload_n hE.1 hE.2.1 dL_law_645 rfl (lv_at hl 0 rfl) ?_
  refine lv_iload hE.1 hE.2.1 dL_law_646 (lv_at hl 4 rfl) ?_
  refine lv_iconst (v := nI 2) hE.1 hE.2.1 dL_law_648 (by decide) ?_
  refine rn_iadd hE dL_law_649 ?_
  refine sc_ld (i := i + 2) hE hXs hbl hbA hH (by omega) hL3 dL_law_650 ?_
  refine lv_aload_n hE.1 hE.2.1 dL_law_651 rfl (lv_at hl 0 rfl) ?_
  refine lv_iload hE.1 hE.2.1 dL_law_652 (lv_at hl 4 rfl) ?_
  refine lv_iconst (v := nI 3) hE.1 hE.2.1 dL_law_654 (by decide) ?_
  refine rn_iadd hE dL_law_655 ?_
  refine sc_ld (i := i + 3) hE hXs hbl hbA hH (by omega) hL3 dL_law_656 ?_
  refine lv_aload_n hE.1 hE.2.1 dL_law_657 rfl (lv_at hl 3 rfl) ?_
  refine rh_SI (As := [.ref (G.ad 100), .int (xs (i + 1)), .int (xs (i + 2)), .int (xs (i + 3)), .ref (G.ad 50)]) (rest := []) hE hml hH mc_L_108 (c_L_quarrel l z hlt G iv jv a hC hO (xs (i + 1)) (xs (i + 2)) (xs (i + 3))) rfl ⟨Nat.le_of_ble_eq_true rfl, Nat.le_of_ble_eq_true rfl⟩ rfl hl.1 (by simp [Value.category]) dL_law_658 ⟨by show cells + 4 ≤ 601024; omega, by show slots + 24 ≤ 7293034; omega⟩ (fun r658 G658 iv658 jv658 H locs hp658 hH => ?_)
  obtain ⟨hEX, rfl, hov, hCn, hFr, hFj, h3, hln⟩ := hp658
  have hlt1 := hln.1
  have hlp1 := hln.2
  have hl : lv_has ls 7 [(0, .ref b), (1, .ref (G658.ad 100)), (2, .ref (G658.ad 0)), (3, .ref (G658.ad 50)), (4, .int (nI i))] := by rw [hEX.adm hC.1.1.1, hEX.adm hM.1.1, hEX.adm hO.1]; exact hl
  have hM := hM.e hEX (by decide)
  have hSt := hSt.fr hFr (fun lb j h1 h2 => by omega)
  have hO := hO.em hEX
  refine lv_istore (lv' := [(5, .int (nI (spQuarrel a (xs (i + 1)) (xs (i + 2)) (xs (i + 3))).1)), (0, .ref b), (1, .ref (G658.ad 100)), (2, .ref (G658.ad 0)), (3, .ref (G658.ad 50)), (4, .int (nI i))]) hE.1 hE.2.1 dL_law_661 hl (by decide) rfl (fun ls hl => ?_)
  refine lv_aload_n hE.1 hE.2.1 dL_law_663 rfl (lv_at hl 3 rfl) ?_
  refine lv_aload_n hE.1 hE.2.1 dL_law_664 rfl (lv_at hl 1 rfl) ?_
  refine lv_iload hE.1 hE.2.1 dL_law_665 (lv_at hl 5 rfl) ?_
  refine lv_iconst (v := nI 1) hE.1 hE.2.1 dL_law_667 (by decide) ?_
  refine rn_iadd hE dL_law_668 ?_
  refine sc_ld (i := i + 1) hE hXs hbl hbA hH (by omega) hL3 dL_law_669 ?_
  refine lv_aload_n hE.1 hE.2.1 dL_law_670 rfl (lv_at hl 1 rfl) ?_
  refine lv_iload hE.1 hE.2.1 dL_law_671 (lv_at hl 5 rfl) ?_
  refine lv_iconst (v := nI 2) hE.1 hE.2.1 dL_law_673 (by decide) ?_
  refine rn_iadd hE dL_law_674 ?_
  refine sc_ld (i := i + 2) hE hXs hbl hbA hH (by omega) hL3 dL_law_675 ?_
  refine lv_aload_n hE.1 hE.2.1 dL_law_676 rfl (lv_at hl 1 rfl) ?_
  refine lv_iload hE.1 hE.2.1 dL_law_677 (lv_at hl 5 rfl) ?_
  refine lv_iconst (v := nI 3) hE.1 hE.2.1 dL_law_679 (by decide) ?_
  refine rn_iadd hE dL_law_680 ?_
  refine sc_ld (i := i + 3) hE hXs hbl hbA hH (by omega) hL3 dL_law_681 ?_
  refine rg_VI (As := [.int (xs (i + 1)), .int (xs (i + 2)), .int (xs (i + 3))]) (rest := []) hE hml hH mc_L_110 (c_quarrel l z G658 hM iv658 jv658 a hSt (xs (i + 1)) (xs (i + 2)) (xs (i + 3))) hM.1.1 hM.1.2 (by decide) rfl ⟨Nat.le_of_ble_eq_true rfl, Nat.le_of_ble_eq_true rfl⟩ rfl hl.1 (by simp [Value.category]) dL_law_682 ⟨by show (cells + 4) + 0 ≤ 601024; omega, by show (slots + 24) + 0 ≤ 7293034; omega⟩ (fun r682 G682 iv682 jv682 H locs hp682 hH => ?_)
  obtain ⟨rfl, rfl, ⟨h00, rfl, hSt⟩, hFm⟩ := hp682
  have hC := hCn.fr hFm (Q := fun _ _ => False) FrJ.rf (fun lb j h1 h2 => by simp only [pM] at h2; omega) (fun _ _ _ h => h)
  refine lv_istore (lv' := [(6, .int ((spQuarrel a (xs (i + 1)) (xs (i + 2)) (xs (i + 3))).2.1)), (5, .int (nI (spQuarrel a (xs (i + 1)) (xs (i + 2)) (xs (i + 3))).1)), (0, .ref b), (1, .ref (G658.ad 100)), (2, .ref (G658.ad 0)), (3, .ref (G658.ad 50)), (4, .int (nI i))]) hE.1 hE.2.1 dL_law_685 hl (by decide) rfl (fun ls hl => ?_)
  refine lv_aload_n hE.1 hE.2.1 dL_law_687 rfl (lv_at hl 4 rfl) ?_
  refine rg_VI (As := []) (rest := []) hE hml hH mc_L_83 (c_thrown l z G658 hM iv682 jv658) hM.1.1 hM.1.2 (by decide) rfl ⟨Nat.le_of_ble_eq_true rfl, Nat.le_of_ble_eq_true rfl⟩ rfl hl.1 (by simp [Value.category]) dL_law_688 ⟨by show ((cells + 4) + 0) + 0 ≤ 601024; omega, by show ((slots + 24) + 0) + 0 ≤ 7293034; omega⟩ (fun r688 G688 iv688 jv688 H locs hp688 hH => ?_)
  obtain ⟨rfl, rfl, rfl, rfl⟩ := hp688
  refine rn_as (v' := nI (spQuarrel a (xs (i + 1)) (xs (i + 2)) (xs (i + 3))).1) h00 ?_
  refine lv_iload hE.1 hE.2.1 dL_law_691 (lv_at hl 1 rfl) ?_
  refine lv_icmp_eq (tgt := 698) hE.1 hE.2.1 dL_law_693 (by decide) (fun c693 => ?_) (fun c693 => ?_)
  · refine lv_iload hE.1 hE.2.1 dL_law_698 (lv_at hl 1 rfl) ?_
    refine lv_if_ne (tgt := 715) hE.1 hE.2.1 dL_law_700 (by decide) (fun c700 => ?_) (fun c700 => ?_)
    · refine lv_goto (tgt := 1405) hE.1 hE.2.1 dL_law_715 (by decide) ?_
      exact kk _ _ _ _ _ _ _ _ _ hH ⟨hM, hSt, hC, hO⟩ ⟨by show (((cells + 4) + 0) + 0) ≤ 200 + 4 * (i + 6) + 60 * (aT (spQuarrel a (xs (i + 1)) (xs (i + 2)) (xs (i + 3))).2.2).length + 10 * (aP (spQuarrel a (xs (i + 1)) (xs (i + 2)) (xs (i + 3))).2.2).length; omega, by show (((slots + 24) + 0) + 0) ≤ 60000 + 24 * (i + 6) + 83000 * (aT (spQuarrel a (xs (i + 1)) (xs (i + 2)) (xs (i + 3))).2.2).length + 700 * (aP (spQuarrel a (xs (i + 1)) (xs (i + 2)) (xs (i + 3))).2.2).length; omega⟩ (lv_sub hl [2, 3, 4, 5, 6] rfl)
    · have hz0 : (spQuarrel a (xs (i + 1)) (xs (i + 2)) (xs (i + 3))).1 = 0 := (nI_eq (Nat.lt_trans h3 (by decide)) (by decide)).mp c700
      refine lv_aload_n hE.1 hE.2.1 dL_law_703 rfl (lv_at hl 5 rfl) ?_
      refine lv_iconst (v := nI 0) hE.1 hE.2.1 dL_law_704 (by decide) ?_
      refine rg_lald hE hH (hO.1) (hO.2.1) (by rw [hO.2.2]; decide) (v := (spQuarrel a (xs (i + 1)) (xs (i + 2)) (xs (i + 3))).2.1.toInt64) (hov hz0) dL_law_705 ?_
      refine lv_iload hE.1 hE.2.1 dL_law_706 (lv_at hl 0 rfl) ?_
      refine lv_i2l (v := ((spQuarrel a (xs (i + 1)) (xs (i + 2)) (xs (i + 3))).2.1).toInt64) hE.1 hE.2.1 dL_law_708 rfl ?_
      refine lv_lcmp hE.1 hE.2.1 dL_law_709 ?_
      refine lv_if_eq (tgt := 715) hE.1 hE.2.1 dL_law_710 (by decide) (fun c710 => ?_) (fun c710 => ?_)
      · refine lv_goto (tgt := 1405) hE.1 hE.2.1 dL_law_715 (by decide) ?_
        exact kk _ _ _ _ _ _ _ _ _ hH ⟨hM, hSt, hC, hO⟩ ⟨by show (((cells + 4) + 0) + 0) ≤ 200 + 4 * (i + 6) + 60 * (aT (spQuarrel a (xs (i + 1)) (xs (i + 2)) (xs (i + 3))).2.2).length + 10 * (aP (spQuarrel a (xs (i + 1)) (xs (i + 2)) (xs (i + 3))).2.2).length; omega, by show (((slots + 24) + 0) + 0) ≤ 60000 + 24 * (i + 6) + 83000 * (aT (spQuarrel a (xs (i + 1)) (xs (i + 2)) (xs (i + 3))).2.2).length + 700 * (aP (spQuarrel a (xs (i + 1)) (xs (i + 2)) (xs (i + 3))).2.2).length; omega⟩ (lv_sub hl [2, 3, 4, 5, 6] rfl)
      · exact (c710 lc_self).elim
  · exact (c693 rfl).elim
set_option maxRecDepth 100000 in
set_option maxHeartbeats 4000000 in
theorem lo_9 {p : Program} {l : Launch} {e : Env} {s : State} {m : MethodId} {below : List Frame} {meth : Method} {c : Code} {D : va_G} {cy : Nat → ClassId} {z : ZK} {b L : Nat} {xs : Nat → Int32} {Q : State → Prop} (hLE : lwE p l s m meth c D cy z b L xs) {i : Nat} (hi : i + 5 < L) {G : GW} {iv : IV} {jv : JV} {a : AS} {H : Heap} {locs : List Loc} {cells slots : Nat} {ls : Array Slot} (hH : HS D cy G (fun q : Nat => s.heap.size ≤ q) s.heap iv jv H locs) (hS : lwS G iv jv a) (hB : lwB i a cells slots) (hl : lv_has ls 7 (lvL G b i)) (kk : ∀ (G' : GW) (iv' : IV) (jv' : JV) (a' : AS) (H' : Heap) (locs' : List Loc) (cells' slots' : Nat) (ls' : Array Slot), HS D cy G' (fun q : Nat => s.heap.size ≤ q) s.heap iv' jv' H' locs' → lwS G' iv' jv' a' → lwB (i + 6) a' cells' slots' → lv_has ls' 7 (lvL G' b i) → W p l e room_1 s m #[Value.ref b] below meth c H' locs' cells' slots' Q (F0 m 1405 ls' [])) : W p l e room_1 s m #[Value.ref b] below meth c H locs cells slots Q (F0 m 718 ls []) := by
  obtain ⟨hE, hml, hXs, hbl, hlt, hL3, hrt, hlk⟩ := hLE
  have hbA : ¬ (fun q : Nat => s.heap.size ≤ q) b := Nat.not_le.mpr hbl
  obtain ⟨hM, hSt, hC, hO⟩ := hS
  obtain ⟨hBc, hBs⟩ := hB
  have hT6 := hC.2.2.2.2.1.2.1
  have hP12 := hC.2.2.2.2.2.1.2.1
  have hl : lv_has ls 7 [(0, .ref b), (1, .ref (G.ad 100)), (2, .ref (G.ad 0)), (3, .ref (G.ad 50)), (4, .int (nI i))] := hl
  refine lv_aload_n hE.1 hE.2.1 dL_law_718 rfl (lv_at hl 1 rfl) ?_
  refine lv_aload_n hE.1 hE.2.1 dL_law_719 rfl (lv_at hl 0 rfl) ?_
  refine lv_iload hE.1 hE.2.1 dL_law_720 (lv_at hl 4 rfl) ?_
  refine lv_iconst (v := nI 1) hE.1 hE.2.1 dL_law_722 (by decide) ?_
  refine rn_iadd hE dL_law_723 ?_
  refine sc_ld (i := i + 1) hE hXs hbl hbA hH (by omega) hL3 dL_law_724 ?_
  refine lv_aload_n hE.1 hE.2.1 dL_law_725 rfl (lv_at hl 0 rfl) ?_
  refine lv_iload hE.1 hE.2.1 dL_law_726 (lv_at hl 4 rfl) ?_
  refine lv_iconst (v := nI 2) hE.1 hE.2.1 dL_law_728 (by decide) ?_
  refine rn_iadd hE dL_law_729 ?_
  refine sc_ld (i := i + 2) hE hXs hbl hbA hH (by omega) hL3 dL_law_730 ?_
  refine lv_aload_n hE.1 hE.2.1 dL_law_731 rfl (lv_at hl 3 rfl) ?_
  refine rh_SI (As := [.ref (G.ad 100), .int (xs (i + 1)), .int (xs (i + 2)), .ref (G.ad 50)]) (rest := []) hE hml hH mc_L_111 (c_L_idle l z hlt G iv jv a hC hO (xs (i + 1)) (xs (i + 2))) rfl ⟨Nat.le_of_ble_eq_true rfl, Nat.le_of_ble_eq_true rfl⟩ rfl hl.1 (by simp [Value.category]) dL_law_732 ⟨by show cells + 4 ≤ 601024; omega, by show slots + 24 ≤ 7293034; omega⟩ (fun r732 G732 iv732 jv732 H locs hp732 hH => ?_)
  obtain ⟨hEX, rfl, hov, hCn, hFr, hFj, h3, hln⟩ := hp732
  have hlt1 := hln.1
  have hlp1 := hln.2
  have hl : lv_has ls 7 [(0, .ref b), (1, .ref (G732.ad 100)), (2, .ref (G732.ad 0)), (3, .ref (G732.ad 50)), (4, .int (nI i))] := by rw [hEX.adm hC.1.1.1, hEX.adm hM.1.1, hEX.adm hO.1]; exact hl
  have hM := hM.e hEX (by decide)
  have hSt := hSt.fr hFr (fun lb j h1 h2 => by omega)
  have hO := hO.em hEX
  refine lv_istore (lv' := [(5, .int (nI (spIdle a (xs (i + 1)) (xs (i + 2))).1)), (0, .ref b), (1, .ref (G732.ad 100)), (2, .ref (G732.ad 0)), (3, .ref (G732.ad 50)), (4, .int (nI i))]) hE.1 hE.2.1 dL_law_735 hl (by decide) rfl (fun ls hl => ?_)
  refine lv_aload_n hE.1 hE.2.1 dL_law_737 rfl (lv_at hl 3 rfl) ?_
  refine lv_aload_n hE.1 hE.2.1 dL_law_738 rfl (lv_at hl 1 rfl) ?_
  refine lv_iload hE.1 hE.2.1 dL_law_739 (lv_at hl 5 rfl) ?_
  refine lv_iconst (v := nI 1) hE.1 hE.2.1 dL_law_741 (by decide) ?_
  refine rn_iadd hE dL_law_742 ?_
  refine sc_ld (i := i + 1) hE hXs hbl hbA hH (by omega) hL3 dL_law_743 ?_
  refine lv_aload_n hE.1 hE.2.1 dL_law_744 rfl (lv_at hl 1 rfl) ?_
  refine lv_iload hE.1 hE.2.1 dL_law_745 (lv_at hl 5 rfl) ?_
  refine lv_iconst (v := nI 2) hE.1 hE.2.1 dL_law_747 (by decide) ?_
  refine rn_iadd hE dL_law_748 ?_
  refine sc_ld (i := i + 2) hE hXs hbl hbA hH (by omega) hL3 dL_law_749 ?_
  refine rg_VI (As := [.int (xs (i + 1)), .int (xs (i + 2))]) (rest := []) hE hml hH mc_L_113 (c_idle l z G732 hM iv732 jv732 a hSt (xs (i + 1)) (xs (i + 2))) hM.1.1 hM.1.2 (by decide) rfl ⟨Nat.le_of_ble_eq_true rfl, Nat.le_of_ble_eq_true rfl⟩ rfl hl.1 (by simp [Value.category]) dL_law_750 ⟨by show (cells + 4) + 0 ≤ 601024; omega, by show (slots + 24) + 0 ≤ 7293034; omega⟩ (fun r750 G750 iv750 jv750 H locs hp750 hH => ?_)
  obtain ⟨rfl, rfl, ⟨h00, rfl, hSt⟩, hFm⟩ := hp750
  have hC := hCn.fr hFm (Q := fun _ _ => False) FrJ.rf (fun lb j h1 h2 => by simp only [pM] at h2; omega) (fun _ _ _ h => h)
  refine lv_istore (lv' := [(6, .int ((spIdle a (xs (i + 1)) (xs (i + 2))).2.1)), (5, .int (nI (spIdle a (xs (i + 1)) (xs (i + 2))).1)), (0, .ref b), (1, .ref (G732.ad 100)), (2, .ref (G732.ad 0)), (3, .ref (G732.ad 50)), (4, .int (nI i))]) hE.1 hE.2.1 dL_law_753 hl (by decide) rfl (fun ls hl => ?_)
  refine lv_aload_n hE.1 hE.2.1 dL_law_755 rfl (lv_at hl 4 rfl) ?_
  refine rg_VI (As := []) (rest := []) hE hml hH mc_L_83 (c_thrown l z G732 hM iv750 jv732) hM.1.1 hM.1.2 (by decide) rfl ⟨Nat.le_of_ble_eq_true rfl, Nat.le_of_ble_eq_true rfl⟩ rfl hl.1 (by simp [Value.category]) dL_law_756 ⟨by show ((cells + 4) + 0) + 0 ≤ 601024; omega, by show ((slots + 24) + 0) + 0 ≤ 7293034; omega⟩ (fun r756 G756 iv756 jv756 H locs hp756 hH => ?_)
  obtain ⟨rfl, rfl, rfl, rfl⟩ := hp756
  refine rn_as (v' := nI (spIdle a (xs (i + 1)) (xs (i + 2))).1) h00 ?_
  refine lv_iload hE.1 hE.2.1 dL_law_759 (lv_at hl 1 rfl) ?_
  refine lv_icmp_eq (tgt := 766) hE.1 hE.2.1 dL_law_761 (by decide) (fun c761 => ?_) (fun c761 => ?_)
  · refine lv_iload hE.1 hE.2.1 dL_law_766 (lv_at hl 1 rfl) ?_
    refine lv_if_ne (tgt := 790) hE.1 hE.2.1 dL_law_768 (by decide) (fun c768 => ?_) (fun c768 => ?_)
    · refine lv_goto (tgt := 1405) hE.1 hE.2.1 dL_law_790 (by decide) ?_
      exact kk _ _ _ _ _ _ _ _ _ hH ⟨hM, hSt, hC, hO⟩ ⟨by show (((cells + 4) + 0) + 0) ≤ 200 + 4 * (i + 6) + 60 * (aT (spIdle a (xs (i + 1)) (xs (i + 2))).2.2).length + 10 * (aP (spIdle a (xs (i + 1)) (xs (i + 2))).2.2).length; omega, by show (((slots + 24) + 0) + 0) ≤ 60000 + 24 * (i + 6) + 83000 * (aT (spIdle a (xs (i + 1)) (xs (i + 2))).2.2).length + 700 * (aP (spIdle a (xs (i + 1)) (xs (i + 2))).2.2).length; omega⟩ (lv_sub hl [2, 3, 4, 5, 6] rfl)
    · have hz0 : (spIdle a (xs (i + 1)) (xs (i + 2))).1 = 0 := (nI_eq (Nat.lt_trans h3 (by decide)) (by decide)).mp c768
      refine lv_aload_n hE.1 hE.2.1 dL_law_771 rfl (lv_at hl 5 rfl) ?_
      refine lv_iconst (v := nI 0) hE.1 hE.2.1 dL_law_772 (by decide) ?_
      refine rg_lald hE hH (hO.1) (hO.2.1) (by rw [hO.2.2]; decide) (v := (spIdle a (xs (i + 1)) (xs (i + 2))).2.1.toInt64) (hov hz0) dL_law_773 ?_
      refine lv_iload hE.1 hE.2.1 dL_law_774 (lv_at hl 0 rfl) ?_
      refine lv_if_eq (tgt := 783) hE.1 hE.2.1 dL_law_776 (by decide) (fun c776 => ?_) (fun c776 => ?_)
      · refine lv_lconst (v := 0) hE.1 hE.2.1 dL_law_783 (by decide) ?_
        refine lv_lcmp hE.1 hE.2.1 dL_law_784 ?_
        refine lv_if_eq (tgt := 790) hE.1 hE.2.1 dL_law_785 (by decide) (fun c785 => ?_) (fun c785 => ?_)
        · refine lv_goto (tgt := 1405) hE.1 hE.2.1 dL_law_790 (by decide) ?_
          exact kk _ _ _ _ _ _ _ _ _ hH ⟨hM, hSt, hC, hO⟩ ⟨by show (((cells + 4) + 0) + 0) ≤ 200 + 4 * (i + 6) + 60 * (aT (spIdle a (xs (i + 1)) (xs (i + 2))).2.2).length + 10 * (aP (spIdle a (xs (i + 1)) (xs (i + 2))).2.2).length; omega, by show (((slots + 24) + 0) + 0) ≤ 60000 + 24 * (i + 6) + 83000 * (aT (spIdle a (xs (i + 1)) (xs (i + 2))).2.2).length + 700 * (aP (spIdle a (xs (i + 1)) (xs (i + 2))).2.2).length; omega⟩ (lv_sub hl [2, 3, 4, 5, 6] rfl)
        · exact (c785 (by rw [c776]; decide)).elim
      · have h1 := spIdle_01.resolve_left c776
        refine lv_lconst (v := 1) hE.1 hE.2.1 dL_law_779 (by decide) ?_
        refine lv_goto (tgt := 784) hE.1 hE.2.1 dL_law_780 (by decide) ?_
        refine lv_lcmp hE.1 hE.2.1 dL_law_784 ?_
        refine lv_if_eq (tgt := 790) hE.1 hE.2.1 dL_law_785 (by decide) (fun c785 => ?_) (fun c785 => ?_)
        · refine lv_goto (tgt := 1405) hE.1 hE.2.1 dL_law_790 (by decide) ?_
          exact kk _ _ _ _ _ _ _ _ _ hH ⟨hM, hSt, hC, hO⟩ ⟨by show (((cells + 4) + 0) + 0) ≤ 200 + 4 * (i + 6) + 60 * (aT (spIdle a (xs (i + 1)) (xs (i + 2))).2.2).length + 10 * (aP (spIdle a (xs (i + 1)) (xs (i + 2))).2.2).length; omega, by show (((slots + 24) + 0) + 0) ≤ 60000 + 24 * (i + 6) + 83000 * (aT (spIdle a (xs (i + 1)) (xs (i + 2))).2.2).length + 700 * (aP (spIdle a (xs (i + 1)) (xs (i + 2))).2.2).length; omega⟩ (lv_sub hl [2, 3, 4, 5, 6] rfl)
        · exact (c785 (by rw [h1]; decide)).elim
  · exact (c761 rfl).elim
set_option maxRecDepth 100000 in
set_option maxHeartbeats 4000000 in
theorem lo_10 {p : Program} {l : Launch} {e : Env} {s : State} {m : MethodId} {below : List Frame} {meth : Method} {c : Code} {D : va_G} {cy : Nat → ClassId} {z : ZK} {b L : Nat} {xs : Nat → Int32} {Q : State → Prop} (hLE : lwE p l s m meth c D cy z b L xs) {i : Nat} (hi : i + 5 < L) {G : GW} {iv : IV} {jv : JV} {a : AS} {H : Heap} {locs : List Loc} {cells slots : Nat} {ls : Array Slot} (hH : HS D cy G (fun q : Nat => s.heap.size ≤ q) s.heap iv jv H locs) (hS : lwS G iv jv a) (hB : lwB i a cells slots) (hl : lv_has ls 7 (lvL G b i)) (kk : ∀ (G' : GW) (iv' : IV) (jv' : JV) (a' : AS) (H' : Heap) (locs' : List Loc) (cells' slots' : Nat) (ls' : Array Slot), HS D cy G' (fun q : Nat => s.heap.size ≤ q) s.heap iv' jv' H' locs' → lwS G' iv' jv' a' → lwB (i + 6) a' cells' slots' → lv_has ls' 7 (lvL G' b i) → W p l e room_1 s m #[Value.ref b] below meth c H' locs' cells' slots' Q (F0 m 1405 ls' [])) : W p l e room_1 s m #[Value.ref b] below meth c H locs cells slots Q (F0 m 793 ls []) := by
  obtain ⟨hE, hml, hXs, hbl, hlt, hL3, hrt, hlk⟩ := hLE
  have hbA : ¬ (fun q : Nat => s.heap.size ≤ q) b := Nat.not_le.mpr hbl
  obtain ⟨hM, hSt, hC, hO⟩ := hS
  obtain ⟨hBc, hBs⟩ := hB
  have hT6 := hC.2.2.2.2.1.2.1
  have hP12 := hC.2.2.2.2.2.1.2.1
  have hl : lv_has ls 7 [(0, .ref b), (1, .ref (G.ad 100)), (2, .ref (G.ad 0)), (3, .ref (G.ad 50)), (4, .int (nI i))] := hl
  refine lv_aload_n hE.1 hE.2.1 dL_law_793 rfl (lv_at hl 1 rfl) ?_
  refine lv_aload_n hE.1 hE.2.1 dL_law_794 rfl (lv_at hl 0 rfl) ?_
  refine lv_iload hE.1 hE.2.1 dL_law_795 (lv_at hl 4 rfl) ?_
  refine lv_iconst (v := nI 1) hE.1 hE.2.1 dL_law_797 (by decide) ?_
  refine rn_iadd hE dL_law_798 ?_
  refine sc_ld (i := i + 1) hE hXs hbl hbA hH (by omega) hL3 dL_law_799 ?_
  refine lv_aload_n hE.1 hE.2.1 dL_law_800 rfl (lv_at hl 0 rfl) ?_
  refine lv_iload hE.1 hE.2.1 dL_law_801 (lv_at hl 4 rfl) ?_
  refine lv_iconst (v := nI 2) hE.1 hE.2.1 dL_law_803 (by decide) ?_
  refine rn_iadd hE dL_law_804 ?_
  refine sc_ld (i := i + 2) hE hXs hbl hbA hH (by omega) hL3 dL_law_805 ?_
  refine lv_aload_n hE.1 hE.2.1 dL_law_806 rfl (lv_at hl 0 rfl) ?_
  refine lv_iload hE.1 hE.2.1 dL_law_807 (lv_at hl 4 rfl) ?_
  refine lv_iconst (v := nI 3) hE.1 hE.2.1 dL_law_809 (by decide) ?_
  refine rn_iadd hE dL_law_810 ?_
  refine sc_ld (i := i + 3) hE hXs hbl hbA hH (by omega) hL3 dL_law_811 ?_
  refine lv_aload_n hE.1 hE.2.1 dL_law_812 rfl (lv_at hl 3 rfl) ?_
  refine rh_SI (As := [.ref (G.ad 100), .int (xs (i + 1)), .int (xs (i + 2)), .int (xs (i + 3)), .ref (G.ad 50)]) (rest := []) hE hml hH mc_L_114 (c_L_term l z hlt G iv jv a hC hO (xs (i + 1)) (xs (i + 2)) (xs (i + 3))) rfl ⟨Nat.le_of_ble_eq_true rfl, Nat.le_of_ble_eq_true rfl⟩ rfl hl.1 (by simp [Value.category]) dL_law_813 ⟨by show cells + 4 ≤ 601024; omega, by show slots + 24 ≤ 7293034; omega⟩ (fun r813 G813 iv813 jv813 H locs hp813 hH => ?_)
  obtain ⟨hEX, rfl, hov, hCn, hFr, hFj, h3, hln⟩ := hp813
  have hlt1 := hln.1
  have hlp1 := hln.2
  have hl : lv_has ls 7 [(0, .ref b), (1, .ref (G813.ad 100)), (2, .ref (G813.ad 0)), (3, .ref (G813.ad 50)), (4, .int (nI i))] := by rw [hEX.adm hC.1.1.1, hEX.adm hM.1.1, hEX.adm hO.1]; exact hl
  have hM := hM.e hEX (by decide)
  have hSt := hSt.fr hFr (fun lb j h1 h2 => by omega)
  have hO := hO.em hEX
  refine lv_istore (lv' := [(5, .int (nI (spTerm a (xs (i + 1)) (xs (i + 2)) (xs (i + 3))).1)), (0, .ref b), (1, .ref (G813.ad 100)), (2, .ref (G813.ad 0)), (3, .ref (G813.ad 50)), (4, .int (nI i))]) hE.1 hE.2.1 dL_law_816 hl (by decide) rfl (fun ls hl => ?_)
  refine lv_aload_n hE.1 hE.2.1 dL_law_818 rfl (lv_at hl 3 rfl) ?_
  refine lv_aload_n hE.1 hE.2.1 dL_law_819 rfl (lv_at hl 1 rfl) ?_
  refine lv_iload hE.1 hE.2.1 dL_law_820 (lv_at hl 5 rfl) ?_
  refine lv_iconst (v := nI 1) hE.1 hE.2.1 dL_law_822 (by decide) ?_
  refine rn_iadd hE dL_law_823 ?_
  refine sc_ld (i := i + 1) hE hXs hbl hbA hH (by omega) hL3 dL_law_824 ?_
  refine lv_aload_n hE.1 hE.2.1 dL_law_825 rfl (lv_at hl 1 rfl) ?_
  refine lv_iload hE.1 hE.2.1 dL_law_826 (lv_at hl 5 rfl) ?_
  refine lv_iconst (v := nI 2) hE.1 hE.2.1 dL_law_828 (by decide) ?_
  refine rn_iadd hE dL_law_829 ?_
  refine sc_ld (i := i + 2) hE hXs hbl hbA hH (by omega) hL3 dL_law_830 ?_
  refine lv_aload_n hE.1 hE.2.1 dL_law_831 rfl (lv_at hl 1 rfl) ?_
  refine lv_iload hE.1 hE.2.1 dL_law_832 (lv_at hl 5 rfl) ?_
  refine lv_iconst (v := nI 3) hE.1 hE.2.1 dL_law_834 (by decide) ?_
  refine rn_iadd hE dL_law_835 ?_
  refine sc_ld (i := i + 3) hE hXs hbl hbA hH (by omega) hL3 dL_law_836 ?_
  refine rg_VI (As := [.int (xs (i + 1)), .int (xs (i + 2)), .int (xs (i + 3))]) (rest := []) hE hml hH mc_L_116 (c_term l z G813 hM iv813 jv813 a hSt (xs (i + 1)) (xs (i + 2)) (xs (i + 3))) hM.1.1 hM.1.2 (by decide) rfl ⟨Nat.le_of_ble_eq_true rfl, Nat.le_of_ble_eq_true rfl⟩ rfl hl.1 (by simp [Value.category]) dL_law_837 ⟨by show (cells + 4) + 0 ≤ 601024; omega, by show (slots + 24) + 0 ≤ 7293034; omega⟩ (fun r837 G837 iv837 jv837 H locs hp837 hH => ?_)
  obtain ⟨rfl, rfl, ⟨h00, rfl, hSt⟩, hFm⟩ := hp837
  have hC := hCn.fr hFm (Q := fun _ _ => False) FrJ.rf (fun lb j h1 h2 => by simp only [pM] at h2; omega) (fun _ _ _ h => h)
  refine lv_istore (lv' := [(6, .int ((spTerm a (xs (i + 1)) (xs (i + 2)) (xs (i + 3))).2.1)), (5, .int (nI (spTerm a (xs (i + 1)) (xs (i + 2)) (xs (i + 3))).1)), (0, .ref b), (1, .ref (G813.ad 100)), (2, .ref (G813.ad 0)), (3, .ref (G813.ad 50)), (4, .int (nI i))]) hE.1 hE.2.1 dL_law_840 hl (by decide) rfl (fun ls hl => ?_)
  refine lv_aload_n hE.1 hE.2.1 dL_law_842 rfl (lv_at hl 4 rfl) ?_
  refine rg_VI (As := []) (rest := []) hE hml hH mc_L_83 (c_thrown l z G813 hM iv837 jv813) hM.1.1 hM.1.2 (by decide) rfl ⟨Nat.le_of_ble_eq_true rfl, Nat.le_of_ble_eq_true rfl⟩ rfl hl.1 (by simp [Value.category]) dL_law_843 ⟨by show ((cells + 4) + 0) + 0 ≤ 601024; omega, by show ((slots + 24) + 0) + 0 ≤ 7293034; omega⟩ (fun r843 G843 iv843 jv843 H locs hp843 hH => ?_)
  obtain ⟨rfl, rfl, rfl, rfl⟩ := hp843
  refine rn_as (v' := nI (spTerm a (xs (i + 1)) (xs (i + 2)) (xs (i + 3))).1) h00 ?_
  refine lv_iload hE.1 hE.2.1 dL_law_846 (lv_at hl 1 rfl) ?_
  refine lv_icmp_eq (tgt := 853) hE.1 hE.2.1 dL_law_848 (by decide) (fun c848 => ?_) (fun c848 => ?_)
  · refine lv_iload hE.1 hE.2.1 dL_law_853 (lv_at hl 1 rfl) ?_
    refine lv_if_ne (tgt := 870) hE.1 hE.2.1 dL_law_855 (by decide) (fun c855 => ?_) (fun c855 => ?_)
    · refine lv_goto (tgt := 1405) hE.1 hE.2.1 dL_law_870 (by decide) ?_
      exact kk _ _ _ _ _ _ _ _ _ hH ⟨hM, hSt, hC, hO⟩ ⟨by show (((cells + 4) + 0) + 0) ≤ 200 + 4 * (i + 6) + 60 * (aT (spTerm a (xs (i + 1)) (xs (i + 2)) (xs (i + 3))).2.2).length + 10 * (aP (spTerm a (xs (i + 1)) (xs (i + 2)) (xs (i + 3))).2.2).length; omega, by show (((slots + 24) + 0) + 0) ≤ 60000 + 24 * (i + 6) + 83000 * (aT (spTerm a (xs (i + 1)) (xs (i + 2)) (xs (i + 3))).2.2).length + 700 * (aP (spTerm a (xs (i + 1)) (xs (i + 2)) (xs (i + 3))).2.2).length; omega⟩ (lv_sub hl [2, 3, 4, 5, 6] rfl)
    · have hz0 : (spTerm a (xs (i + 1)) (xs (i + 2)) (xs (i + 3))).1 = 0 := (nI_eq (Nat.lt_trans h3 (by decide)) (by decide)).mp c855
      refine lv_aload_n hE.1 hE.2.1 dL_law_858 rfl (lv_at hl 5 rfl) ?_
      refine lv_iconst (v := nI 0) hE.1 hE.2.1 dL_law_859 (by decide) ?_
      refine rg_lald hE hH (hO.1) (hO.2.1) (by rw [hO.2.2]; decide) (v := (spTerm a (xs (i + 1)) (xs (i + 2)) (xs (i + 3))).2.1.toInt64) (hov hz0) dL_law_860 ?_
      refine lv_iload hE.1 hE.2.1 dL_law_861 (lv_at hl 0 rfl) ?_
      refine lv_i2l (v := ((spTerm a (xs (i + 1)) (xs (i + 2)) (xs (i + 3))).2.1).toInt64) hE.1 hE.2.1 dL_law_863 rfl ?_
      refine lv_lcmp hE.1 hE.2.1 dL_law_864 ?_
      refine lv_if_eq (tgt := 870) hE.1 hE.2.1 dL_law_865 (by decide) (fun c865 => ?_) (fun c865 => ?_)
      · refine lv_goto (tgt := 1405) hE.1 hE.2.1 dL_law_870 (by decide) ?_
        exact kk _ _ _ _ _ _ _ _ _ hH ⟨hM, hSt, hC, hO⟩ ⟨by show (((cells + 4) + 0) + 0) ≤ 200 + 4 * (i + 6) + 60 * (aT (spTerm a (xs (i + 1)) (xs (i + 2)) (xs (i + 3))).2.2).length + 10 * (aP (spTerm a (xs (i + 1)) (xs (i + 2)) (xs (i + 3))).2.2).length; omega, by show (((slots + 24) + 0) + 0) ≤ 60000 + 24 * (i + 6) + 83000 * (aT (spTerm a (xs (i + 1)) (xs (i + 2)) (xs (i + 3))).2.2).length + 700 * (aP (spTerm a (xs (i + 1)) (xs (i + 2)) (xs (i + 3))).2.2).length; omega⟩ (lv_sub hl [2, 3, 4, 5, 6] rfl)
      · exact (c865 lc_self).elim
  · exact (c848 rfl).elim
set_option maxRecDepth 100000 in
set_option maxHeartbeats 4000000 in
theorem lo_11 {p : Program} {l : Launch} {e : Env} {s : State} {m : MethodId} {below : List Frame} {meth : Method} {c : Code} {D : va_G} {cy : Nat → ClassId} {z : ZK} {b L : Nat} {xs : Nat → Int32} {Q : State → Prop} (hLE : lwE p l s m meth c D cy z b L xs) {i : Nat} (hi : i + 5 < L) {G : GW} {iv : IV} {jv : JV} {a : AS} {H : Heap} {locs : List Loc} {cells slots : Nat} {ls : Array Slot} (hH : HS D cy G (fun q : Nat => s.heap.size ≤ q) s.heap iv jv H locs) (hS : lwS G iv jv a) (hB : lwB i a cells slots) (hl : lv_has ls 7 (lvL G b i)) (kk : ∀ (G' : GW) (iv' : IV) (jv' : JV) (a' : AS) (H' : Heap) (locs' : List Loc) (cells' slots' : Nat) (ls' : Array Slot), HS D cy G' (fun q : Nat => s.heap.size ≤ q) s.heap iv' jv' H' locs' → lwS G' iv' jv' a' → lwB (i + 6) a' cells' slots' → lv_has ls' 7 (lvL G' b i) → W p l e room_1 s m #[Value.ref b] below meth c H' locs' cells' slots' Q (F0 m 1405 ls' [])) : W p l e room_1 s m #[Value.ref b] below meth c H locs cells slots Q (F0 m 873 ls []) := by
  obtain ⟨hE, hml, hXs, hbl, hlt, hL3, hrt, hlk⟩ := hLE
  have hbA : ¬ (fun q : Nat => s.heap.size ≤ q) b := Nat.not_le.mpr hbl
  obtain ⟨hM, hSt, hC, hO⟩ := hS
  obtain ⟨hBc, hBs⟩ := hB
  have hT6 := hC.2.2.2.2.1.2.1
  have hP12 := hC.2.2.2.2.2.1.2.1
  have hl : lv_has ls 7 [(0, .ref b), (1, .ref (G.ad 100)), (2, .ref (G.ad 0)), (3, .ref (G.ad 50)), (4, .int (nI i))] := hl
  refine lv_aload_n hE.1 hE.2.1 dL_law_873 rfl (lv_at hl 1 rfl) ?_
  refine lv_aload_n hE.1 hE.2.1 dL_law_874 rfl (lv_at hl 0 rfl) ?_
  refine lv_iload hE.1 hE.2.1 dL_law_875 (lv_at hl 4 rfl) ?_
  refine lv_iconst (v := nI 1) hE.1 hE.2.1 dL_law_877 (by decide) ?_
  refine rn_iadd hE dL_law_878 ?_
  refine sc_ld (i := i + 1) hE hXs hbl hbA hH (by omega) hL3 dL_law_879 ?_
  refine lv_aload_n hE.1 hE.2.1 dL_law_880 rfl (lv_at hl 0 rfl) ?_
  refine lv_iload hE.1 hE.2.1 dL_law_881 (lv_at hl 4 rfl) ?_
  refine lv_iconst (v := nI 2) hE.1 hE.2.1 dL_law_883 (by decide) ?_
  refine rn_iadd hE dL_law_884 ?_
  refine sc_ld (i := i + 2) hE hXs hbl hbA hH (by omega) hL3 dL_law_885 ?_
  refine lv_aload_n hE.1 hE.2.1 dL_law_886 rfl (lv_at hl 0 rfl) ?_
  refine lv_iload hE.1 hE.2.1 dL_law_887 (lv_at hl 4 rfl) ?_
  refine lv_iconst (v := nI 3) hE.1 hE.2.1 dL_law_889 (by decide) ?_
  refine rn_iadd hE dL_law_890 ?_
  refine sc_ld (i := i + 3) hE hXs hbl hbA hH (by omega) hL3 dL_law_891 ?_
  refine lv_aload_n hE.1 hE.2.1 dL_law_892 rfl (lv_at hl 3 rfl) ?_
  refine rh_SI (As := [.ref (G.ad 100), .int (xs (i + 1)), .int (xs (i + 2)), .int (xs (i + 3)), .ref (G.ad 50)]) (rest := []) hE hml hH mc_L_117 (c_L_offered l z hlt G iv jv a hC hO (xs (i + 1)) (xs (i + 2)) (xs (i + 3))) rfl ⟨Nat.le_of_ble_eq_true rfl, Nat.le_of_ble_eq_true rfl⟩ rfl hl.1 (by simp [Value.category]) dL_law_893 ⟨by show cells + 4 ≤ 601024; omega, by show slots + 24 ≤ 7293034; omega⟩ (fun r893 G893 iv893 jv893 H locs hp893 hH => ?_)
  obtain ⟨hEX, rfl, hov, hCn, hFr, hFj, h3, hln⟩ := hp893
  have hlt1 := hln.1
  have hlp1 := hln.2
  have hl : lv_has ls 7 [(0, .ref b), (1, .ref (G893.ad 100)), (2, .ref (G893.ad 0)), (3, .ref (G893.ad 50)), (4, .int (nI i))] := by rw [hEX.adm hC.1.1.1, hEX.adm hM.1.1, hEX.adm hO.1]; exact hl
  have hM := hM.e hEX (by decide)
  have hSt := hSt.fr hFr (fun lb j h1 h2 => by omega)
  have hO := hO.em hEX
  refine lv_istore (lv' := [(5, .int (nI (spOffered a (xs (i + 1)) (xs (i + 2)) (xs (i + 3))).1)), (0, .ref b), (1, .ref (G893.ad 100)), (2, .ref (G893.ad 0)), (3, .ref (G893.ad 50)), (4, .int (nI i))]) hE.1 hE.2.1 dL_law_896 hl (by decide) rfl (fun ls hl => ?_)
  refine lv_aload_n hE.1 hE.2.1 dL_law_898 rfl (lv_at hl 3 rfl) ?_
  refine lv_aload_n hE.1 hE.2.1 dL_law_899 rfl (lv_at hl 1 rfl) ?_
  refine lv_iload hE.1 hE.2.1 dL_law_900 (lv_at hl 5 rfl) ?_
  refine lv_iconst (v := nI 1) hE.1 hE.2.1 dL_law_902 (by decide) ?_
  refine rn_iadd hE dL_law_903 ?_
  refine sc_ld (i := i + 1) hE hXs hbl hbA hH (by omega) hL3 dL_law_904 ?_
  refine lv_aload_n hE.1 hE.2.1 dL_law_905 rfl (lv_at hl 1 rfl) ?_
  refine lv_iload hE.1 hE.2.1 dL_law_906 (lv_at hl 5 rfl) ?_
  refine lv_iconst (v := nI 2) hE.1 hE.2.1 dL_law_908 (by decide) ?_
  refine rn_iadd hE dL_law_909 ?_
  refine sc_ld (i := i + 2) hE hXs hbl hbA hH (by omega) hL3 dL_law_910 ?_
  refine lv_aload_n hE.1 hE.2.1 dL_law_911 rfl (lv_at hl 1 rfl) ?_
  refine lv_iload hE.1 hE.2.1 dL_law_912 (lv_at hl 5 rfl) ?_
  refine lv_iconst (v := nI 3) hE.1 hE.2.1 dL_law_914 (by decide) ?_
  refine rn_iadd hE dL_law_915 ?_
  refine sc_ld (i := i + 3) hE hXs hbl hbA hH (by omega) hL3 dL_law_916 ?_
  refine rg_VI (As := [.int (xs (i + 1)), .int (xs (i + 2)), .int (xs (i + 3))]) (rest := []) hE hml hH mc_L_119 (c_offered l z G893 hM iv893 jv893 a hSt (xs (i + 1)) (xs (i + 2)) (xs (i + 3))) hM.1.1 hM.1.2 (by decide) rfl ⟨Nat.le_of_ble_eq_true rfl, Nat.le_of_ble_eq_true rfl⟩ rfl hl.1 (by simp [Value.category]) dL_law_917 ⟨by show (cells + 4) + 0 ≤ 601024; omega, by show (slots + 24) + 0 ≤ 7293034; omega⟩ (fun r917 G917 iv917 jv917 H locs hp917 hH => ?_)
  obtain ⟨rfl, rfl, ⟨h00, rfl, hSt⟩, hFm⟩ := hp917
  have hC := hCn.fr hFm (Q := fun _ _ => False) FrJ.rf (fun lb j h1 h2 => by simp only [pM] at h2; omega) (fun _ _ _ h => h)
  refine lv_istore (lv' := [(6, .int ((spOffered a (xs (i + 1)) (xs (i + 2)) (xs (i + 3))).2.1)), (5, .int (nI (spOffered a (xs (i + 1)) (xs (i + 2)) (xs (i + 3))).1)), (0, .ref b), (1, .ref (G893.ad 100)), (2, .ref (G893.ad 0)), (3, .ref (G893.ad 50)), (4, .int (nI i))]) hE.1 hE.2.1 dL_law_920 hl (by decide) rfl (fun ls hl => ?_)
  refine lv_aload_n hE.1 hE.2.1 dL_law_922 rfl (lv_at hl 4 rfl) ?_
  refine rg_VI (As := []) (rest := []) hE hml hH mc_L_83 (c_thrown l z G893 hM iv917 jv893) hM.1.1 hM.1.2 (by decide) rfl ⟨Nat.le_of_ble_eq_true rfl, Nat.le_of_ble_eq_true rfl⟩ rfl hl.1 (by simp [Value.category]) dL_law_923 ⟨by show ((cells + 4) + 0) + 0 ≤ 601024; omega, by show ((slots + 24) + 0) + 0 ≤ 7293034; omega⟩ (fun r923 G923 iv923 jv923 H locs hp923 hH => ?_)
  obtain ⟨rfl, rfl, rfl, rfl⟩ := hp923
  refine rn_as (v' := nI (spOffered a (xs (i + 1)) (xs (i + 2)) (xs (i + 3))).1) h00 ?_
  refine lv_iload hE.1 hE.2.1 dL_law_926 (lv_at hl 1 rfl) ?_
  refine lv_icmp_eq (tgt := 933) hE.1 hE.2.1 dL_law_928 (by decide) (fun c928 => ?_) (fun c928 => ?_)
  · refine lv_iload hE.1 hE.2.1 dL_law_933 (lv_at hl 1 rfl) ?_
    refine lv_if_ne (tgt := 950) hE.1 hE.2.1 dL_law_935 (by decide) (fun c935 => ?_) (fun c935 => ?_)
    · refine lv_goto (tgt := 1405) hE.1 hE.2.1 dL_law_950 (by decide) ?_
      exact kk _ _ _ _ _ _ _ _ _ hH ⟨hM, hSt, hC, hO⟩ ⟨by show (((cells + 4) + 0) + 0) ≤ 200 + 4 * (i + 6) + 60 * (aT (spOffered a (xs (i + 1)) (xs (i + 2)) (xs (i + 3))).2.2).length + 10 * (aP (spOffered a (xs (i + 1)) (xs (i + 2)) (xs (i + 3))).2.2).length; omega, by show (((slots + 24) + 0) + 0) ≤ 60000 + 24 * (i + 6) + 83000 * (aT (spOffered a (xs (i + 1)) (xs (i + 2)) (xs (i + 3))).2.2).length + 700 * (aP (spOffered a (xs (i + 1)) (xs (i + 2)) (xs (i + 3))).2.2).length; omega⟩ (lv_sub hl [2, 3, 4, 5, 6] rfl)
    · have hz0 : (spOffered a (xs (i + 1)) (xs (i + 2)) (xs (i + 3))).1 = 0 := (nI_eq (Nat.lt_trans h3 (by decide)) (by decide)).mp c935
      refine lv_aload_n hE.1 hE.2.1 dL_law_938 rfl (lv_at hl 5 rfl) ?_
      refine lv_iconst (v := nI 0) hE.1 hE.2.1 dL_law_939 (by decide) ?_
      refine rg_lald hE hH (hO.1) (hO.2.1) (by rw [hO.2.2]; decide) (v := (spOffered a (xs (i + 1)) (xs (i + 2)) (xs (i + 3))).2.1.toInt64) (hov hz0) dL_law_940 ?_
      refine lv_iload hE.1 hE.2.1 dL_law_941 (lv_at hl 0 rfl) ?_
      refine lv_i2l (v := ((spOffered a (xs (i + 1)) (xs (i + 2)) (xs (i + 3))).2.1).toInt64) hE.1 hE.2.1 dL_law_943 rfl ?_
      refine lv_lcmp hE.1 hE.2.1 dL_law_944 ?_
      refine lv_if_eq (tgt := 950) hE.1 hE.2.1 dL_law_945 (by decide) (fun c945 => ?_) (fun c945 => ?_)
      · refine lv_goto (tgt := 1405) hE.1 hE.2.1 dL_law_950 (by decide) ?_
        exact kk _ _ _ _ _ _ _ _ _ hH ⟨hM, hSt, hC, hO⟩ ⟨by show (((cells + 4) + 0) + 0) ≤ 200 + 4 * (i + 6) + 60 * (aT (spOffered a (xs (i + 1)) (xs (i + 2)) (xs (i + 3))).2.2).length + 10 * (aP (spOffered a (xs (i + 1)) (xs (i + 2)) (xs (i + 3))).2.2).length; omega, by show (((slots + 24) + 0) + 0) ≤ 60000 + 24 * (i + 6) + 83000 * (aT (spOffered a (xs (i + 1)) (xs (i + 2)) (xs (i + 3))).2.2).length + 700 * (aP (spOffered a (xs (i + 1)) (xs (i + 2)) (xs (i + 3))).2.2).length; omega⟩ (lv_sub hl [2, 3, 4, 5, 6] rfl)
      · exact (c945 lc_self).elim
  · exact (c928 rfl).elim
set_option maxRecDepth 100000 in
set_option maxHeartbeats 4000000 in
theorem lo_12 {p : Program} {l : Launch} {e : Env} {s : State} {m : MethodId} {below : List Frame} {meth : Method} {c : Code} {D : va_G} {cy : Nat → ClassId} {z : ZK} {b L : Nat} {xs : Nat → Int32} {Q : State → Prop} (hLE : lwE p l s m meth c D cy z b L xs) {i : Nat} (hi : i + 5 < L) {G : GW} {iv : IV} {jv : JV} {a : AS} {H : Heap} {locs : List Loc} {cells slots : Nat} {ls : Array Slot} (hH : HS D cy G (fun q : Nat => s.heap.size ≤ q) s.heap iv jv H locs) (hS : lwS G iv jv a) (hB : lwB i a cells slots) (hl : lv_has ls 7 (lvL G b i)) (kk : ∀ (G' : GW) (iv' : IV) (jv' : JV) (a' : AS) (H' : Heap) (locs' : List Loc) (cells' slots' : Nat) (ls' : Array Slot), HS D cy G' (fun q : Nat => s.heap.size ≤ q) s.heap iv' jv' H' locs' → lwS G' iv' jv' a' → lwB (i + 6) a' cells' slots' → lv_has ls' 7 (lvL G' b i) → W p l e room_1 s m #[Value.ref b] below meth c H' locs' cells' slots' Q (F0 m 1405 ls' [])) : W p l e room_1 s m #[Value.ref b] below meth c H locs cells slots Q (F0 m 953 ls []) := by
  obtain ⟨hE, hml, hXs, hbl, hlt, hL3, hrt, hlk⟩ := hLE
  have hbA : ¬ (fun q : Nat => s.heap.size ≤ q) b := Nat.not_le.mpr hbl
  obtain ⟨hM, hSt, hC, hO⟩ := hS
  obtain ⟨hBc, hBs⟩ := hB
  have hT6 := hC.2.2.2.2.1.2.1
  have hP12 := hC.2.2.2.2.2.1.2.1
  have hl : lv_has ls 7 [(0, .ref b), (1, .ref (G.ad 100)), (2, .ref (G.ad 0)), (3, .ref (G.ad 50)), (4, .int (nI i))] := hl
  refine lv_aload_n hE.1 hE.2.1 dL_law_953 rfl (lv_at hl 1 rfl) ?_
  refine lv_aload_n hE.1 hE.2.1 dL_law_954 rfl (lv_at hl 0 rfl) ?_
  refine lv_iload hE.1 hE.2.1 dL_law_955 (lv_at hl 4 rfl) ?_
  refine lv_iconst (v := nI 1) hE.1 hE.2.1 dL_law_957 (by decide) ?_
  refine rn_iadd hE dL_law_958 ?_
  refine sc_ld (i := i + 1) hE hXs hbl hbA hH (by omega) hL3 dL_law_959 ?_
  refine lv_aload_n hE.1 hE.2.1 dL_law_960 rfl (lv_at hl 3 rfl) ?_
  refine rh_SI (As := [.ref (G.ad 100), .int (xs (i + 1)), .ref (G.ad 50)]) (rest := []) hE hml hH mc_L_120 (c_L_tell l z hlt G iv jv a hC hO (xs (i + 1))) rfl ⟨Nat.le_of_ble_eq_true rfl, Nat.le_of_ble_eq_true rfl⟩ rfl hl.1 (by simp [Value.category]) dL_law_961 ⟨by show cells + 4 ≤ 601024; omega, by show slots + 24 ≤ 7293034; omega⟩ (fun r961 G961 iv961 jv961 H locs hp961 hH => ?_)
  obtain ⟨hEX, rfl, hov, hCn, hFr, hFj, h3, hln⟩ := hp961
  have hlt1 := hln.1
  have hlp1 := hln.2
  have hl : lv_has ls 7 [(0, .ref b), (1, .ref (G961.ad 100)), (2, .ref (G961.ad 0)), (3, .ref (G961.ad 50)), (4, .int (nI i))] := by rw [hEX.adm hC.1.1.1, hEX.adm hM.1.1, hEX.adm hO.1]; exact hl
  have hM := hM.e hEX (by decide)
  have hSt := hSt.fr hFr (fun lb j h1 h2 => by omega)
  have hO := hO.em hEX
  refine lv_istore (lv' := [(5, .int (nI (spTell a (xs (i + 1))).1)), (0, .ref b), (1, .ref (G961.ad 100)), (2, .ref (G961.ad 0)), (3, .ref (G961.ad 50)), (4, .int (nI i))]) hE.1 hE.2.1 dL_law_964 hl (by decide) rfl (fun ls hl => ?_)
  refine lv_aload_n hE.1 hE.2.1 dL_law_966 rfl (lv_at hl 3 rfl) ?_
  refine lv_aload_n hE.1 hE.2.1 dL_law_967 rfl (lv_at hl 1 rfl) ?_
  refine lv_iload hE.1 hE.2.1 dL_law_968 (lv_at hl 5 rfl) ?_
  refine lv_iconst (v := nI 1) hE.1 hE.2.1 dL_law_970 (by decide) ?_
  refine rn_iadd hE dL_law_971 ?_
  refine sc_ld (i := i + 1) hE hXs hbl hbA hH (by omega) hL3 dL_law_972 ?_
  refine rg_VI (As := [.int (xs (i + 1))]) (rest := []) hE hml hH mc_L_122 (c_tell l z G961 hM iv961 jv961 a hSt (xs (i + 1))) hM.1.1 hM.1.2 (by decide) rfl ⟨Nat.le_of_ble_eq_true rfl, Nat.le_of_ble_eq_true rfl⟩ rfl hl.1 (by simp [Value.category]) dL_law_973 ⟨by show (cells + 4) + 0 ≤ 601024; omega, by show (slots + 24) + 0 ≤ 7293034; omega⟩ (fun r973 G973 iv973 jv973 H locs hp973 hH => ?_)
  obtain ⟨rfl, rfl, ⟨h00, rfl, hSt⟩, hFm⟩ := hp973
  have hC := hCn.fr hFm (Q := fun _ _ => False) FrJ.rf (fun lb j h1 h2 => by simp only [pM] at h2; omega) (fun _ _ _ h => h)
  refine lv_istore (lv' := [(6, .int ((spTell a (xs (i + 1))).2.1)), (5, .int (nI (spTell a (xs (i + 1))).1)), (0, .ref b), (1, .ref (G961.ad 100)), (2, .ref (G961.ad 0)), (3, .ref (G961.ad 50)), (4, .int (nI i))]) hE.1 hE.2.1 dL_law_976 hl (by decide) rfl (fun ls hl => ?_)
  refine lv_aload_n hE.1 hE.2.1 dL_law_978 rfl (lv_at hl 4 rfl) ?_
  refine rg_VI (As := []) (rest := []) hE hml hH mc_L_83 (c_thrown l z G961 hM iv973 jv961) hM.1.1 hM.1.2 (by decide) rfl ⟨Nat.le_of_ble_eq_true rfl, Nat.le_of_ble_eq_true rfl⟩ rfl hl.1 (by simp [Value.category]) dL_law_979 ⟨by show ((cells + 4) + 0) + 0 ≤ 601024; omega, by show ((slots + 24) + 0) + 0 ≤ 7293034; omega⟩ (fun r979 G979 iv979 jv979 H locs hp979 hH => ?_)
  obtain ⟨rfl, rfl, rfl, rfl⟩ := hp979
  refine rn_as (v' := nI (spTell a (xs (i + 1))).1) h00 ?_
  refine lv_iload hE.1 hE.2.1 dL_law_982 (lv_at hl 1 rfl) ?_
  refine lv_icmp_eq (tgt := 989) hE.1 hE.2.1 dL_law_984 (by decide) (fun c984 => ?_) (fun c984 => ?_)
  · refine lv_iload hE.1 hE.2.1 dL_law_989 (lv_at hl 1 rfl) ?_
    refine lv_if_ne (tgt := 1006) hE.1 hE.2.1 dL_law_991 (by decide) (fun c991 => ?_) (fun c991 => ?_)
    · refine lv_goto (tgt := 1405) hE.1 hE.2.1 dL_law_1006 (by decide) ?_
      exact kk _ _ _ _ _ _ _ _ _ hH ⟨hM, hSt, hC, hO⟩ ⟨by show (((cells + 4) + 0) + 0) ≤ 200 + 4 * (i + 6) + 60 * (aT (spTell a (xs (i + 1))).2.2).length + 10 * (aP (spTell a (xs (i + 1))).2.2).length; omega, by show (((slots + 24) + 0) + 0) ≤ 60000 + 24 * (i + 6) + 83000 * (aT (spTell a (xs (i + 1))).2.2).length + 700 * (aP (spTell a (xs (i + 1))).2.2).length; omega⟩ (lv_sub hl [2, 3, 4, 5, 6] rfl)
    · have hz0 : (spTell a (xs (i + 1))).1 = 0 := (nI_eq (Nat.lt_trans h3 (by decide)) (by decide)).mp c991
      refine lv_aload_n hE.1 hE.2.1 dL_law_994 rfl (lv_at hl 5 rfl) ?_
      refine lv_iconst (v := nI 0) hE.1 hE.2.1 dL_law_995 (by decide) ?_
      refine rg_lald hE hH (hO.1) (hO.2.1) (by rw [hO.2.2]; decide) (v := (spTell a (xs (i + 1))).2.1.toInt64) (hov hz0) dL_law_996 ?_
      refine lv_iload hE.1 hE.2.1 dL_law_997 (lv_at hl 0 rfl) ?_
      refine lv_i2l (v := ((spTell a (xs (i + 1))).2.1).toInt64) hE.1 hE.2.1 dL_law_999 rfl ?_
      refine lv_lcmp hE.1 hE.2.1 dL_law_1000 ?_
      refine lv_if_eq (tgt := 1006) hE.1 hE.2.1 dL_law_1001 (by decide) (fun c1001 => ?_) (fun c1001 => ?_)
      · refine lv_goto (tgt := 1405) hE.1 hE.2.1 dL_law_1006 (by decide) ?_
        exact kk _ _ _ _ _ _ _ _ _ hH ⟨hM, hSt, hC, hO⟩ ⟨by show (((cells + 4) + 0) + 0) ≤ 200 + 4 * (i + 6) + 60 * (aT (spTell a (xs (i + 1))).2.2).length + 10 * (aP (spTell a (xs (i + 1))).2.2).length; omega, by show (((slots + 24) + 0) + 0) ≤ 60000 + 24 * (i + 6) + 83000 * (aT (spTell a (xs (i + 1))).2.2).length + 700 * (aP (spTell a (xs (i + 1))).2.2).length; omega⟩ (lv_sub hl [2, 3, 4, 5, 6] rfl)
      · exact (c1001 lc_self).elim
  · exact (c984 rfl).elim
set_option maxRecDepth 100000 in
set_option maxHeartbeats 4000000 in
theorem lo_13 {p : Program} {l : Launch} {e : Env} {s : State} {m : MethodId} {below : List Frame} {meth : Method} {c : Code} {D : va_G} {cy : Nat → ClassId} {z : ZK} {b L : Nat} {xs : Nat → Int32} {Q : State → Prop} (hLE : lwE p l s m meth c D cy z b L xs) {i : Nat} (hi : i + 5 < L) {G : GW} {iv : IV} {jv : JV} {a : AS} {H : Heap} {locs : List Loc} {cells slots : Nat} {ls : Array Slot} (hH : HS D cy G (fun q : Nat => s.heap.size ≤ q) s.heap iv jv H locs) (hS : lwS G iv jv a) (hB : lwB i a cells slots) (hl : lv_has ls 7 (lvL G b i)) (kk : ∀ (G' : GW) (iv' : IV) (jv' : JV) (a' : AS) (H' : Heap) (locs' : List Loc) (cells' slots' : Nat) (ls' : Array Slot), HS D cy G' (fun q : Nat => s.heap.size ≤ q) s.heap iv' jv' H' locs' → lwS G' iv' jv' a' → lwB (i + 6) a' cells' slots' → lv_has ls' 7 (lvL G' b i) → W p l e room_1 s m #[Value.ref b] below meth c H' locs' cells' slots' Q (F0 m 1405 ls' [])) : W p l e room_1 s m #[Value.ref b] below meth c H locs cells slots Q (F0 m 1009 ls []) := by
  obtain ⟨hE, hml, hXs, hbl, hlt, hL3, hrt, hlk⟩ := hLE
  have hbA : ¬ (fun q : Nat => s.heap.size ≤ q) b := Nat.not_le.mpr hbl
  obtain ⟨hM, hSt, hC, hO⟩ := hS
  obtain ⟨hBc, hBs⟩ := hB
  have hT6 := hC.2.2.2.2.1.2.1
  have hP12 := hC.2.2.2.2.2.1.2.1
  have hl : lv_has ls 7 [(0, .ref b), (1, .ref (G.ad 100)), (2, .ref (G.ad 0)), (3, .ref (G.ad 50)), (4, .int (nI i))] := hl
  refine lv_aload_n hE.1 hE.2.1 dL_law_1009 rfl (lv_at hl 1 rfl) ?_
  refine lv_aload_n hE.1 hE.2.1 dL_law_1010 rfl (lv_at hl 0 rfl) ?_
  refine lv_iload hE.1 hE.2.1 dL_law_1011 (lv_at hl 4 rfl) ?_
  refine lv_iconst (v := nI 1) hE.1 hE.2.1 dL_law_1013 (by decide) ?_
  refine rn_iadd hE dL_law_1014 ?_
  refine sc_ld (i := i + 1) hE hXs hbl hbA hH (by omega) hL3 dL_law_1015 ?_
  refine lv_aload_n hE.1 hE.2.1 dL_law_1016 rfl (lv_at hl 3 rfl) ?_
  refine rh_SI (As := [.ref (G.ad 100), .int (xs (i + 1)), .ref (G.ad 50)]) (rest := []) hE hml hH mc_L_123 (c_L_told l z hlt G iv jv a hC hO (xs (i + 1))) rfl ⟨Nat.le_of_ble_eq_true rfl, Nat.le_of_ble_eq_true rfl⟩ rfl hl.1 (by simp [Value.category]) dL_law_1017 ⟨by show cells + 4 ≤ 601024; omega, by show slots + 24 ≤ 7293034; omega⟩ (fun r1017 G1017 iv1017 jv1017 H locs hp1017 hH => ?_)
  obtain ⟨hEX, rfl, hov, hCn, hFr, hFj, h3, hln⟩ := hp1017
  have hlt1 := hln.1
  have hlp1 := hln.2
  have hl : lv_has ls 7 [(0, .ref b), (1, .ref (G1017.ad 100)), (2, .ref (G1017.ad 0)), (3, .ref (G1017.ad 50)), (4, .int (nI i))] := by rw [hEX.adm hC.1.1.1, hEX.adm hM.1.1, hEX.adm hO.1]; exact hl
  have hM := hM.e hEX (by decide)
  have hSt := hSt.fr hFr (fun lb j h1 h2 => by omega)
  have hO := hO.em hEX
  refine lv_istore (lv' := [(5, .int (nI (spTold a (xs (i + 1))).1)), (0, .ref b), (1, .ref (G1017.ad 100)), (2, .ref (G1017.ad 0)), (3, .ref (G1017.ad 50)), (4, .int (nI i))]) hE.1 hE.2.1 dL_law_1020 hl (by decide) rfl (fun ls hl => ?_)
  refine lv_aload_n hE.1 hE.2.1 dL_law_1022 rfl (lv_at hl 3 rfl) ?_
  refine lv_aload_n hE.1 hE.2.1 dL_law_1023 rfl (lv_at hl 1 rfl) ?_
  refine lv_iload hE.1 hE.2.1 dL_law_1024 (lv_at hl 5 rfl) ?_
  refine lv_iconst (v := nI 1) hE.1 hE.2.1 dL_law_1026 (by decide) ?_
  refine rn_iadd hE dL_law_1027 ?_
  refine sc_ld (i := i + 1) hE hXs hbl hbA hH (by omega) hL3 dL_law_1028 ?_
  refine rg_VI (As := [.int (xs (i + 1))]) (rest := []) hE hml hH mc_L_125 (c_told l z G1017 hM iv1017 jv1017 a hSt (xs (i + 1))) hM.1.1 hM.1.2 (by decide) rfl ⟨Nat.le_of_ble_eq_true rfl, Nat.le_of_ble_eq_true rfl⟩ rfl hl.1 (by simp [Value.category]) dL_law_1029 ⟨by show (cells + 4) + 0 ≤ 601024; omega, by show (slots + 24) + 0 ≤ 7293034; omega⟩ (fun r1029 G1029 iv1029 jv1029 H locs hp1029 hH => ?_)
  obtain ⟨rfl, rfl, ⟨h00, rfl, hSt⟩, hFm⟩ := hp1029
  have hC := hCn.fr hFm (Q := fun _ _ => False) FrJ.rf (fun lb j h1 h2 => by simp only [pM] at h2; omega) (fun _ _ _ h => h)
  refine lv_istore (lv' := [(6, .int ((spTold a (xs (i + 1))).2.1)), (5, .int (nI (spTold a (xs (i + 1))).1)), (0, .ref b), (1, .ref (G1017.ad 100)), (2, .ref (G1017.ad 0)), (3, .ref (G1017.ad 50)), (4, .int (nI i))]) hE.1 hE.2.1 dL_law_1032 hl (by decide) rfl (fun ls hl => ?_)
  refine lv_aload_n hE.1 hE.2.1 dL_law_1034 rfl (lv_at hl 4 rfl) ?_
  refine rg_VI (As := []) (rest := []) hE hml hH mc_L_83 (c_thrown l z G1017 hM iv1029 jv1017) hM.1.1 hM.1.2 (by decide) rfl ⟨Nat.le_of_ble_eq_true rfl, Nat.le_of_ble_eq_true rfl⟩ rfl hl.1 (by simp [Value.category]) dL_law_1035 ⟨by show ((cells + 4) + 0) + 0 ≤ 601024; omega, by show ((slots + 24) + 0) + 0 ≤ 7293034; omega⟩ (fun r1035 G1035 iv1035 jv1035 H locs hp1035 hH => ?_)
  obtain ⟨rfl, rfl, rfl, rfl⟩ := hp1035
  refine rn_as (v' := nI (spTold a (xs (i + 1))).1) h00 ?_
  refine lv_iload hE.1 hE.2.1 dL_law_1038 (lv_at hl 1 rfl) ?_
  refine lv_icmp_eq (tgt := 1045) hE.1 hE.2.1 dL_law_1040 (by decide) (fun c1040 => ?_) (fun c1040 => ?_)
  · refine lv_iload hE.1 hE.2.1 dL_law_1045 (lv_at hl 1 rfl) ?_
    refine lv_if_ne (tgt := 1062) hE.1 hE.2.1 dL_law_1047 (by decide) (fun c1047 => ?_) (fun c1047 => ?_)
    · refine lv_goto (tgt := 1405) hE.1 hE.2.1 dL_law_1062 (by decide) ?_
      exact kk _ _ _ _ _ _ _ _ _ hH ⟨hM, hSt, hC, hO⟩ ⟨by show (((cells + 4) + 0) + 0) ≤ 200 + 4 * (i + 6) + 60 * (aT (spTold a (xs (i + 1))).2.2).length + 10 * (aP (spTold a (xs (i + 1))).2.2).length; omega, by show (((slots + 24) + 0) + 0) ≤ 60000 + 24 * (i + 6) + 83000 * (aT (spTold a (xs (i + 1))).2.2).length + 700 * (aP (spTold a (xs (i + 1))).2.2).length; omega⟩ (lv_sub hl [2, 3, 4, 5, 6] rfl)
    · have hz0 : (spTold a (xs (i + 1))).1 = 0 := (nI_eq (Nat.lt_trans h3 (by decide)) (by decide)).mp c1047
      refine lv_aload_n hE.1 hE.2.1 dL_law_1050 rfl (lv_at hl 5 rfl) ?_
      refine lv_iconst (v := nI 0) hE.1 hE.2.1 dL_law_1051 (by decide) ?_
      refine rg_lald hE hH (hO.1) (hO.2.1) (by rw [hO.2.2]; decide) (v := (spTold a (xs (i + 1))).2.1.toInt64) (hov hz0) dL_law_1052 ?_
      refine lv_iload hE.1 hE.2.1 dL_law_1053 (lv_at hl 0 rfl) ?_
      refine lv_i2l (v := ((spTold a (xs (i + 1))).2.1).toInt64) hE.1 hE.2.1 dL_law_1055 rfl ?_
      refine lv_lcmp hE.1 hE.2.1 dL_law_1056 ?_
      refine lv_if_eq (tgt := 1062) hE.1 hE.2.1 dL_law_1057 (by decide) (fun c1057 => ?_) (fun c1057 => ?_)
      · refine lv_goto (tgt := 1405) hE.1 hE.2.1 dL_law_1062 (by decide) ?_
        exact kk _ _ _ _ _ _ _ _ _ hH ⟨hM, hSt, hC, hO⟩ ⟨by show (((cells + 4) + 0) + 0) ≤ 200 + 4 * (i + 6) + 60 * (aT (spTold a (xs (i + 1))).2.2).length + 10 * (aP (spTold a (xs (i + 1))).2.2).length; omega, by show (((slots + 24) + 0) + 0) ≤ 60000 + 24 * (i + 6) + 83000 * (aT (spTold a (xs (i + 1))).2.2).length + 700 * (aP (spTold a (xs (i + 1))).2.2).length; omega⟩ (lv_sub hl [2, 3, 4, 5, 6] rfl)
      · exact (c1057 lc_self).elim
  · exact (c1040 rfl).elim
set_option maxRecDepth 100000 in
set_option maxHeartbeats 4000000 in
theorem lo_14 {p : Program} {l : Launch} {e : Env} {s : State} {m : MethodId} {below : List Frame} {meth : Method} {c : Code} {D : va_G} {cy : Nat → ClassId} {z : ZK} {b L : Nat} {xs : Nat → Int32} {Q : State → Prop} (hLE : lwE p l s m meth c D cy z b L xs) {i : Nat} (hi : i + 5 < L) {G : GW} {iv : IV} {jv : JV} {a : AS} {H : Heap} {locs : List Loc} {cells slots : Nat} {ls : Array Slot} (hH : HS D cy G (fun q : Nat => s.heap.size ≤ q) s.heap iv jv H locs) (hS : lwS G iv jv a) (hB : lwB i a cells slots) (hl : lv_has ls 7 (lvL G b i)) (kk : ∀ (G' : GW) (iv' : IV) (jv' : JV) (a' : AS) (H' : Heap) (locs' : List Loc) (cells' slots' : Nat) (ls' : Array Slot), HS D cy G' (fun q : Nat => s.heap.size ≤ q) s.heap iv' jv' H' locs' → lwS G' iv' jv' a' → lwB (i + 6) a' cells' slots' → lv_has ls' 7 (lvL G' b i) → W p l e room_1 s m #[Value.ref b] below meth c H' locs' cells' slots' Q (F0 m 1405 ls' [])) : W p l e room_1 s m #[Value.ref b] below meth c H locs cells slots Q (F0 m 1065 ls []) := by
  obtain ⟨hE, hml, hXs, hbl, hlt, hL3, hrt, hlk⟩ := hLE
  have hbA : ¬ (fun q : Nat => s.heap.size ≤ q) b := Nat.not_le.mpr hbl
  obtain ⟨hM, hSt, hC, hO⟩ := hS
  obtain ⟨hBc, hBs⟩ := hB
  have hT6 := hC.2.2.2.2.1.2.1
  have hP12 := hC.2.2.2.2.2.1.2.1
  have hl : lv_has ls 7 [(0, .ref b), (1, .ref (G.ad 100)), (2, .ref (G.ad 0)), (3, .ref (G.ad 50)), (4, .int (nI i))] := hl
  refine lv_aload_n hE.1 hE.2.1 dL_law_1065 rfl (lv_at hl 1 rfl) ?_
  refine lv_aload_n hE.1 hE.2.1 dL_law_1066 rfl (lv_at hl 0 rfl) ?_
  refine lv_iload hE.1 hE.2.1 dL_law_1067 (lv_at hl 4 rfl) ?_
  refine lv_iconst (v := nI 1) hE.1 hE.2.1 dL_law_1069 (by decide) ?_
  refine rn_iadd hE dL_law_1070 ?_
  refine sc_ld (i := i + 1) hE hXs hbl hbA hH (by omega) hL3 dL_law_1071 ?_
  refine lv_aload_n hE.1 hE.2.1 dL_law_1072 rfl (lv_at hl 0 rfl) ?_
  refine lv_iload hE.1 hE.2.1 dL_law_1073 (lv_at hl 4 rfl) ?_
  refine lv_iconst (v := nI 2) hE.1 hE.2.1 dL_law_1075 (by decide) ?_
  refine rn_iadd hE dL_law_1076 ?_
  refine sc_ld (i := i + 2) hE hXs hbl hbA hH (by omega) hL3 dL_law_1077 ?_
  refine lv_aload_n hE.1 hE.2.1 dL_law_1078 rfl (lv_at hl 3 rfl) ?_
  refine rh_SI (As := [.ref (G.ad 100), .int (xs (i + 1)), .int (xs (i + 2)), .ref (G.ad 50)]) (rest := []) hE hml hH mc_L_126 (c_L_run l z hlt G iv jv a hC hO (xs (i + 1)) (xs (i + 2))) rfl ⟨Nat.le_of_ble_eq_true rfl, Nat.le_of_ble_eq_true rfl⟩ rfl hl.1 (by simp [Value.category]) dL_law_1079 ⟨by show cells + 4 ≤ 601024; omega, by show slots + 24 ≤ 7293034; omega⟩ (fun r1079 G1079 iv1079 jv1079 H locs hp1079 hH => ?_)
  obtain ⟨hEX, rfl, hov, hCn, hFr, hFj, h3, hln⟩ := hp1079
  have hlt1 := hln.1
  have hlp1 := hln.2
  have hl : lv_has ls 7 [(0, .ref b), (1, .ref (G1079.ad 100)), (2, .ref (G1079.ad 0)), (3, .ref (G1079.ad 50)), (4, .int (nI i))] := by rw [hEX.adm hC.1.1.1, hEX.adm hM.1.1, hEX.adm hO.1]; exact hl
  have hM := hM.e hEX (by decide)
  have hSt := hSt.fr hFr (fun lb j h1 h2 => by omega)
  have hO := hO.em hEX
  refine lv_istore (lv' := [(5, .int (nI (spRun a (xs (i + 1)) (xs (i + 2))).1)), (0, .ref b), (1, .ref (G1079.ad 100)), (2, .ref (G1079.ad 0)), (3, .ref (G1079.ad 50)), (4, .int (nI i))]) hE.1 hE.2.1 dL_law_1082 hl (by decide) rfl (fun ls hl => ?_)
  refine lv_aload_n hE.1 hE.2.1 dL_law_1084 rfl (lv_at hl 3 rfl) ?_
  refine lv_aload_n hE.1 hE.2.1 dL_law_1085 rfl (lv_at hl 1 rfl) ?_
  refine lv_iload hE.1 hE.2.1 dL_law_1086 (lv_at hl 5 rfl) ?_
  refine lv_iconst (v := nI 1) hE.1 hE.2.1 dL_law_1088 (by decide) ?_
  refine rn_iadd hE dL_law_1089 ?_
  refine sc_ld (i := i + 1) hE hXs hbl hbA hH (by omega) hL3 dL_law_1090 ?_
  refine lv_aload_n hE.1 hE.2.1 dL_law_1091 rfl (lv_at hl 1 rfl) ?_
  refine lv_iload hE.1 hE.2.1 dL_law_1092 (lv_at hl 5 rfl) ?_
  refine lv_iconst (v := nI 2) hE.1 hE.2.1 dL_law_1094 (by decide) ?_
  refine rn_iadd hE dL_law_1095 ?_
  refine sc_ld (i := i + 2) hE hXs hbl hbA hH (by omega) hL3 dL_law_1096 ?_
  refine rg_VI (As := [.int (xs (i + 1)), .int (xs (i + 2))]) (rest := []) hE hml hH mc_L_128 (c_run l z G1079 hM iv1079 jv1079 a hSt (xs (i + 1)) (xs (i + 2))) hM.1.1 hM.1.2 (by decide) rfl ⟨Nat.le_of_ble_eq_true rfl, Nat.le_of_ble_eq_true rfl⟩ rfl hl.1 (by simp [Value.category]) dL_law_1097 ⟨by show (cells + 4) + 0 ≤ 601024; omega, by show (slots + 24) + 0 ≤ 7293034; omega⟩ (fun r1097 G1097 iv1097 jv1097 H locs hp1097 hH => ?_)
  obtain ⟨rfl, rfl, ⟨h00, rfl, hSt⟩, hFm⟩ := hp1097
  have hC := hCn.fr hFm (Q := fun _ _ => False) FrJ.rf (fun lb j h1 h2 => by simp only [pM] at h2; omega) (fun _ _ _ h => h)
  refine lv_istore (lv' := [(6, .int ((spRun a (xs (i + 1)) (xs (i + 2))).2.1)), (5, .int (nI (spRun a (xs (i + 1)) (xs (i + 2))).1)), (0, .ref b), (1, .ref (G1079.ad 100)), (2, .ref (G1079.ad 0)), (3, .ref (G1079.ad 50)), (4, .int (nI i))]) hE.1 hE.2.1 dL_law_1100 hl (by decide) rfl (fun ls hl => ?_)
  refine lv_aload_n hE.1 hE.2.1 dL_law_1102 rfl (lv_at hl 4 rfl) ?_
  refine rg_VI (As := []) (rest := []) hE hml hH mc_L_83 (c_thrown l z G1079 hM iv1097 jv1079) hM.1.1 hM.1.2 (by decide) rfl ⟨Nat.le_of_ble_eq_true rfl, Nat.le_of_ble_eq_true rfl⟩ rfl hl.1 (by simp [Value.category]) dL_law_1103 ⟨by show ((cells + 4) + 0) + 0 ≤ 601024; omega, by show ((slots + 24) + 0) + 0 ≤ 7293034; omega⟩ (fun r1103 G1103 iv1103 jv1103 H locs hp1103 hH => ?_)
  obtain ⟨rfl, rfl, rfl, rfl⟩ := hp1103
  refine rn_as (v' := nI (spRun a (xs (i + 1)) (xs (i + 2))).1) h00 ?_
  refine lv_iload hE.1 hE.2.1 dL_law_1106 (lv_at hl 1 rfl) ?_
  refine lv_icmp_eq (tgt := 1113) hE.1 hE.2.1 dL_law_1108 (by decide) (fun c1108 => ?_) (fun c1108 => ?_)
  · refine lv_iload hE.1 hE.2.1 dL_law_1113 (lv_at hl 1 rfl) ?_
    refine lv_if_ne (tgt := 1130) hE.1 hE.2.1 dL_law_1115 (by decide) (fun c1115 => ?_) (fun c1115 => ?_)
    · refine lv_goto (tgt := 1405) hE.1 hE.2.1 dL_law_1130 (by decide) ?_
      exact kk _ _ _ _ _ _ _ _ _ hH ⟨hM, hSt, hC, hO⟩ ⟨by show (((cells + 4) + 0) + 0) ≤ 200 + 4 * (i + 6) + 60 * (aT (spRun a (xs (i + 1)) (xs (i + 2))).2.2).length + 10 * (aP (spRun a (xs (i + 1)) (xs (i + 2))).2.2).length; omega, by show (((slots + 24) + 0) + 0) ≤ 60000 + 24 * (i + 6) + 83000 * (aT (spRun a (xs (i + 1)) (xs (i + 2))).2.2).length + 700 * (aP (spRun a (xs (i + 1)) (xs (i + 2))).2.2).length; omega⟩ (lv_sub hl [2, 3, 4, 5, 6] rfl)
    · have hz0 : (spRun a (xs (i + 1)) (xs (i + 2))).1 = 0 := (nI_eq (Nat.lt_trans h3 (by decide)) (by decide)).mp c1115
      refine lv_aload_n hE.1 hE.2.1 dL_law_1118 rfl (lv_at hl 5 rfl) ?_
      refine lv_iconst (v := nI 0) hE.1 hE.2.1 dL_law_1119 (by decide) ?_
      refine rg_lald hE hH (hO.1) (hO.2.1) (by rw [hO.2.2]; decide) (v := (spRun a (xs (i + 1)) (xs (i + 2))).2.1.toInt64) (hov hz0) dL_law_1120 ?_
      refine lv_iload hE.1 hE.2.1 dL_law_1121 (lv_at hl 0 rfl) ?_
      refine lv_i2l (v := ((spRun a (xs (i + 1)) (xs (i + 2))).2.1).toInt64) hE.1 hE.2.1 dL_law_1123 rfl ?_
      refine lv_lcmp hE.1 hE.2.1 dL_law_1124 ?_
      refine lv_if_eq (tgt := 1130) hE.1 hE.2.1 dL_law_1125 (by decide) (fun c1125 => ?_) (fun c1125 => ?_)
      · refine lv_goto (tgt := 1405) hE.1 hE.2.1 dL_law_1130 (by decide) ?_
        exact kk _ _ _ _ _ _ _ _ _ hH ⟨hM, hSt, hC, hO⟩ ⟨by show (((cells + 4) + 0) + 0) ≤ 200 + 4 * (i + 6) + 60 * (aT (spRun a (xs (i + 1)) (xs (i + 2))).2.2).length + 10 * (aP (spRun a (xs (i + 1)) (xs (i + 2))).2.2).length; omega, by show (((slots + 24) + 0) + 0) ≤ 60000 + 24 * (i + 6) + 83000 * (aT (spRun a (xs (i + 1)) (xs (i + 2))).2.2).length + 700 * (aP (spRun a (xs (i + 1)) (xs (i + 2))).2.2).length; omega⟩ (lv_sub hl [2, 3, 4, 5, 6] rfl)
      · exact (c1125 lc_self).elim
  · exact (c1108 rfl).elim
set_option maxRecDepth 100000 in
set_option maxHeartbeats 4000000 in
theorem lo_15 {p : Program} {l : Launch} {e : Env} {s : State} {m : MethodId} {below : List Frame} {meth : Method} {c : Code} {D : va_G} {cy : Nat → ClassId} {z : ZK} {b L : Nat} {xs : Nat → Int32} {Q : State → Prop} (hLE : lwE p l s m meth c D cy z b L xs) {i : Nat} (hi : i + 5 < L) {G : GW} {iv : IV} {jv : JV} {a : AS} {H : Heap} {locs : List Loc} {cells slots : Nat} {ls : Array Slot} (hH : HS D cy G (fun q : Nat => s.heap.size ≤ q) s.heap iv jv H locs) (hS : lwS G iv jv a) (hB : lwB i a cells slots) (hl : lv_has ls 7 (lvL G b i)) (kk : ∀ (G' : GW) (iv' : IV) (jv' : JV) (a' : AS) (H' : Heap) (locs' : List Loc) (cells' slots' : Nat) (ls' : Array Slot), HS D cy G' (fun q : Nat => s.heap.size ≤ q) s.heap iv' jv' H' locs' → lwS G' iv' jv' a' → lwB (i + 6) a' cells' slots' → lv_has ls' 7 (lvL G' b i) → W p l e room_1 s m #[Value.ref b] below meth c H' locs' cells' slots' Q (F0 m 1405 ls' [])) : W p l e room_1 s m #[Value.ref b] below meth c H locs cells slots Q (F0 m 1133 ls []) := by
  obtain ⟨hE, hml, hXs, hbl, hlt, hL3, hrt, hlk⟩ := hLE
  have hbA : ¬ (fun q : Nat => s.heap.size ≤ q) b := Nat.not_le.mpr hbl
  obtain ⟨hM, hSt, hC, hO⟩ := hS
  obtain ⟨hBc, hBs⟩ := hB
  have hT6 := hC.2.2.2.2.1.2.1
  have hP12 := hC.2.2.2.2.2.1.2.1
  have hl : lv_has ls 7 [(0, .ref b), (1, .ref (G.ad 100)), (2, .ref (G.ad 0)), (3, .ref (G.ad 50)), (4, .int (nI i))] := hl
  refine lv_aload_n hE.1 hE.2.1 dL_law_1133 rfl (lv_at hl 1 rfl) ?_
  refine lv_aload_n hE.1 hE.2.1 dL_law_1134 rfl (lv_at hl 0 rfl) ?_
  refine lv_iload hE.1 hE.2.1 dL_law_1135 (lv_at hl 4 rfl) ?_
  refine lv_iconst (v := nI 1) hE.1 hE.2.1 dL_law_1137 (by decide) ?_
  refine rn_iadd hE dL_law_1138 ?_
  refine sc_ld (i := i + 1) hE hXs hbl hbA hH (by omega) hL3 dL_law_1139 ?_
  refine lv_aload_n hE.1 hE.2.1 dL_law_1140 rfl (lv_at hl 0 rfl) ?_
  refine lv_iload hE.1 hE.2.1 dL_law_1141 (lv_at hl 4 rfl) ?_
  refine lv_iconst (v := nI 2) hE.1 hE.2.1 dL_law_1143 (by decide) ?_
  refine rn_iadd hE dL_law_1144 ?_
  refine sc_ld (i := i + 2) hE hXs hbl hbA hH (by omega) hL3 dL_law_1145 ?_
  refine lv_aload_n hE.1 hE.2.1 dL_law_1146 rfl (lv_at hl 3 rfl) ?_
  refine rh_SI (As := [.ref (G.ad 100), .int (xs (i + 1)), .int (xs (i + 2)), .ref (G.ad 50)]) (rest := []) hE hml hH mc_L_129 (c_L_fails l z hlt G iv jv a hC hO (xs (i + 1)) (xs (i + 2))) rfl ⟨Nat.le_of_ble_eq_true rfl, Nat.le_of_ble_eq_true rfl⟩ rfl hl.1 (by simp [Value.category]) dL_law_1147 ⟨by show cells + 4 ≤ 601024; omega, by show slots + 24 ≤ 7293034; omega⟩ (fun r1147 G1147 iv1147 jv1147 H locs hp1147 hH => ?_)
  obtain ⟨hEX, rfl, hov, hCn, hFr, hFj, h3, hln⟩ := hp1147
  have hlt1 := hln.1
  have hlp1 := hln.2
  have hl : lv_has ls 7 [(0, .ref b), (1, .ref (G1147.ad 100)), (2, .ref (G1147.ad 0)), (3, .ref (G1147.ad 50)), (4, .int (nI i))] := by rw [hEX.adm hC.1.1.1, hEX.adm hM.1.1, hEX.adm hO.1]; exact hl
  have hM := hM.e hEX (by decide)
  have hSt := hSt.fr hFr (fun lb j h1 h2 => by omega)
  have hO := hO.em hEX
  refine lv_istore (lv' := [(5, .int (nI (spFails a (xs (i + 1)) (xs (i + 2))).1)), (0, .ref b), (1, .ref (G1147.ad 100)), (2, .ref (G1147.ad 0)), (3, .ref (G1147.ad 50)), (4, .int (nI i))]) hE.1 hE.2.1 dL_law_1150 hl (by decide) rfl (fun ls hl => ?_)
  refine lv_aload_n hE.1 hE.2.1 dL_law_1152 rfl (lv_at hl 3 rfl) ?_
  refine lv_aload_n hE.1 hE.2.1 dL_law_1153 rfl (lv_at hl 1 rfl) ?_
  refine lv_iload hE.1 hE.2.1 dL_law_1154 (lv_at hl 5 rfl) ?_
  refine lv_iconst (v := nI 1) hE.1 hE.2.1 dL_law_1156 (by decide) ?_
  refine rn_iadd hE dL_law_1157 ?_
  refine sc_ld (i := i + 1) hE hXs hbl hbA hH (by omega) hL3 dL_law_1158 ?_
  refine lv_aload_n hE.1 hE.2.1 dL_law_1159 rfl (lv_at hl 1 rfl) ?_
  refine lv_iload hE.1 hE.2.1 dL_law_1160 (lv_at hl 5 rfl) ?_
  refine lv_iconst (v := nI 2) hE.1 hE.2.1 dL_law_1162 (by decide) ?_
  refine rn_iadd hE dL_law_1163 ?_
  refine sc_ld (i := i + 2) hE hXs hbl hbA hH (by omega) hL3 dL_law_1164 ?_
  refine rg_VI (As := [.int (xs (i + 1)), .int (xs (i + 2))]) (rest := []) hE hml hH mc_L_131 (c_fails l z G1147 hM iv1147 jv1147 a hSt (xs (i + 1)) (xs (i + 2))) hM.1.1 hM.1.2 (by decide) rfl ⟨Nat.le_of_ble_eq_true rfl, Nat.le_of_ble_eq_true rfl⟩ rfl hl.1 (by simp [Value.category]) dL_law_1165 ⟨by show (cells + 4) + 0 ≤ 601024; omega, by show (slots + 24) + 0 ≤ 7293034; omega⟩ (fun r1165 G1165 iv1165 jv1165 H locs hp1165 hH => ?_)
  obtain ⟨rfl, rfl, ⟨h00, rfl, hSt⟩, hFm⟩ := hp1165
  have hC := hCn.fr hFm (Q := fun _ _ => False) FrJ.rf (fun lb j h1 h2 => by simp only [pM] at h2; omega) (fun _ _ _ h => h)
  refine lv_istore (lv' := [(6, .int ((spFails a (xs (i + 1)) (xs (i + 2))).2.1)), (5, .int (nI (spFails a (xs (i + 1)) (xs (i + 2))).1)), (0, .ref b), (1, .ref (G1147.ad 100)), (2, .ref (G1147.ad 0)), (3, .ref (G1147.ad 50)), (4, .int (nI i))]) hE.1 hE.2.1 dL_law_1168 hl (by decide) rfl (fun ls hl => ?_)
  refine lv_aload_n hE.1 hE.2.1 dL_law_1170 rfl (lv_at hl 4 rfl) ?_
  refine rg_VI (As := []) (rest := []) hE hml hH mc_L_83 (c_thrown l z G1147 hM iv1165 jv1147) hM.1.1 hM.1.2 (by decide) rfl ⟨Nat.le_of_ble_eq_true rfl, Nat.le_of_ble_eq_true rfl⟩ rfl hl.1 (by simp [Value.category]) dL_law_1171 ⟨by show ((cells + 4) + 0) + 0 ≤ 601024; omega, by show ((slots + 24) + 0) + 0 ≤ 7293034; omega⟩ (fun r1171 G1171 iv1171 jv1171 H locs hp1171 hH => ?_)
  obtain ⟨rfl, rfl, rfl, rfl⟩ := hp1171
  refine rn_as (v' := nI (spFails a (xs (i + 1)) (xs (i + 2))).1) h00 ?_
  refine lv_iload hE.1 hE.2.1 dL_law_1174 (lv_at hl 1 rfl) ?_
  refine lv_icmp_eq (tgt := 1181) hE.1 hE.2.1 dL_law_1176 (by decide) (fun c1176 => ?_) (fun c1176 => ?_)
  · refine lv_iload hE.1 hE.2.1 dL_law_1181 (lv_at hl 1 rfl) ?_
    refine lv_if_ne (tgt := 1198) hE.1 hE.2.1 dL_law_1183 (by decide) (fun c1183 => ?_) (fun c1183 => ?_)
    · refine lv_goto (tgt := 1405) hE.1 hE.2.1 dL_law_1198 (by decide) ?_
      exact kk _ _ _ _ _ _ _ _ _ hH ⟨hM, hSt, hC, hO⟩ ⟨by show (((cells + 4) + 0) + 0) ≤ 200 + 4 * (i + 6) + 60 * (aT (spFails a (xs (i + 1)) (xs (i + 2))).2.2).length + 10 * (aP (spFails a (xs (i + 1)) (xs (i + 2))).2.2).length; omega, by show (((slots + 24) + 0) + 0) ≤ 60000 + 24 * (i + 6) + 83000 * (aT (spFails a (xs (i + 1)) (xs (i + 2))).2.2).length + 700 * (aP (spFails a (xs (i + 1)) (xs (i + 2))).2.2).length; omega⟩ (lv_sub hl [2, 3, 4, 5, 6] rfl)
    · have hz0 : (spFails a (xs (i + 1)) (xs (i + 2))).1 = 0 := (nI_eq (Nat.lt_trans h3 (by decide)) (by decide)).mp c1183
      refine lv_aload_n hE.1 hE.2.1 dL_law_1186 rfl (lv_at hl 5 rfl) ?_
      refine lv_iconst (v := nI 0) hE.1 hE.2.1 dL_law_1187 (by decide) ?_
      refine rg_lald hE hH (hO.1) (hO.2.1) (by rw [hO.2.2]; decide) (v := (spFails a (xs (i + 1)) (xs (i + 2))).2.1.toInt64) (hov hz0) dL_law_1188 ?_
      refine lv_iload hE.1 hE.2.1 dL_law_1189 (lv_at hl 0 rfl) ?_
      refine lv_i2l (v := ((spFails a (xs (i + 1)) (xs (i + 2))).2.1).toInt64) hE.1 hE.2.1 dL_law_1191 rfl ?_
      refine lv_lcmp hE.1 hE.2.1 dL_law_1192 ?_
      refine lv_if_eq (tgt := 1198) hE.1 hE.2.1 dL_law_1193 (by decide) (fun c1193 => ?_) (fun c1193 => ?_)
      · refine lv_goto (tgt := 1405) hE.1 hE.2.1 dL_law_1198 (by decide) ?_
        exact kk _ _ _ _ _ _ _ _ _ hH ⟨hM, hSt, hC, hO⟩ ⟨by show (((cells + 4) + 0) + 0) ≤ 200 + 4 * (i + 6) + 60 * (aT (spFails a (xs (i + 1)) (xs (i + 2))).2.2).length + 10 * (aP (spFails a (xs (i + 1)) (xs (i + 2))).2.2).length; omega, by show (((slots + 24) + 0) + 0) ≤ 60000 + 24 * (i + 6) + 83000 * (aT (spFails a (xs (i + 1)) (xs (i + 2))).2.2).length + 700 * (aP (spFails a (xs (i + 1)) (xs (i + 2))).2.2).length; omega⟩ (lv_sub hl [2, 3, 4, 5, 6] rfl)
      · exact (c1193 lc_self).elim
  · exact (c1176 rfl).elim
set_option maxRecDepth 100000 in
set_option maxHeartbeats 4000000 in
theorem lo_16 {p : Program} {l : Launch} {e : Env} {s : State} {m : MethodId} {below : List Frame} {meth : Method} {c : Code} {D : va_G} {cy : Nat → ClassId} {z : ZK} {b L : Nat} {xs : Nat → Int32} {Q : State → Prop} (hLE : lwE p l s m meth c D cy z b L xs) {i : Nat} (hi : i + 5 < L) {G : GW} {iv : IV} {jv : JV} {a : AS} {H : Heap} {locs : List Loc} {cells slots : Nat} {ls : Array Slot} (hH : HS D cy G (fun q : Nat => s.heap.size ≤ q) s.heap iv jv H locs) (hS : lwS G iv jv a) (hB : lwB i a cells slots) (hl : lv_has ls 7 (lvL G b i)) (kk : ∀ (G' : GW) (iv' : IV) (jv' : JV) (a' : AS) (H' : Heap) (locs' : List Loc) (cells' slots' : Nat) (ls' : Array Slot), HS D cy G' (fun q : Nat => s.heap.size ≤ q) s.heap iv' jv' H' locs' → lwS G' iv' jv' a' → lwB (i + 6) a' cells' slots' → lv_has ls' 7 (lvL G' b i) → W p l e room_1 s m #[Value.ref b] below meth c H' locs' cells' slots' Q (F0 m 1405 ls' [])) : W p l e room_1 s m #[Value.ref b] below meth c H locs cells slots Q (F0 m 1201 ls []) := by
  obtain ⟨hE, hml, hXs, hbl, hlt, hL3, hrt, hlk⟩ := hLE
  have hbA : ¬ (fun q : Nat => s.heap.size ≤ q) b := Nat.not_le.mpr hbl
  obtain ⟨hM, hSt, hC, hO⟩ := hS
  obtain ⟨hBc, hBs⟩ := hB
  have hT6 := hC.2.2.2.2.1.2.1
  have hP12 := hC.2.2.2.2.2.1.2.1
  have hl : lv_has ls 7 [(0, .ref b), (1, .ref (G.ad 100)), (2, .ref (G.ad 0)), (3, .ref (G.ad 50)), (4, .int (nI i))] := hl
  refine lv_aload_n hE.1 hE.2.1 dL_law_1201 rfl (lv_at hl 1 rfl) ?_
  refine lv_aload_n hE.1 hE.2.1 dL_law_1202 rfl (lv_at hl 0 rfl) ?_
  refine lv_iload hE.1 hE.2.1 dL_law_1203 (lv_at hl 4 rfl) ?_
  refine lv_iconst (v := nI 1) hE.1 hE.2.1 dL_law_1205 (by decide) ?_
  refine rn_iadd hE dL_law_1206 ?_
  refine sc_ld (i := i + 1) hE hXs hbl hbA hH (by omega) hL3 dL_law_1207 ?_
  refine lv_aload_n hE.1 hE.2.1 dL_law_1208 rfl (lv_at hl 0 rfl) ?_
  refine lv_iload hE.1 hE.2.1 dL_law_1209 (lv_at hl 4 rfl) ?_
  refine lv_iconst (v := nI 2) hE.1 hE.2.1 dL_law_1211 (by decide) ?_
  refine rn_iadd hE dL_law_1212 ?_
  refine sc_ld (i := i + 2) hE hXs hbl hbA hH (by omega) hL3 dL_law_1213 ?_
  refine lv_aload_n hE.1 hE.2.1 dL_law_1214 rfl (lv_at hl 3 rfl) ?_
  refine rh_SI (As := [.ref (G.ad 100), .int (xs (i + 1)), .int (xs (i + 2)), .ref (G.ad 50)]) (rest := []) hE hml hH mc_L_132 (c_L_failing l z hlt G iv jv a hC hO (xs (i + 1)) (xs (i + 2))) rfl ⟨Nat.le_of_ble_eq_true rfl, Nat.le_of_ble_eq_true rfl⟩ rfl hl.1 (by simp [Value.category]) dL_law_1215 ⟨by show cells + 4 ≤ 601024; omega, by show slots + 24 ≤ 7293034; omega⟩ (fun r1215 G1215 iv1215 jv1215 H locs hp1215 hH => ?_)
  obtain ⟨hEX, rfl, hov, hCn, hFr, hFj, h3, hln⟩ := hp1215
  have hlt1 := hln.1
  have hlp1 := hln.2
  have hl : lv_has ls 7 [(0, .ref b), (1, .ref (G1215.ad 100)), (2, .ref (G1215.ad 0)), (3, .ref (G1215.ad 50)), (4, .int (nI i))] := by rw [hEX.adm hC.1.1.1, hEX.adm hM.1.1, hEX.adm hO.1]; exact hl
  have hM := hM.e hEX (by decide)
  have hSt := hSt.fr hFr (fun lb j h1 h2 => by omega)
  have hO := hO.em hEX
  refine lv_istore (lv' := [(5, .int (nI (spFailing a (xs (i + 1)) (xs (i + 2))).1)), (0, .ref b), (1, .ref (G1215.ad 100)), (2, .ref (G1215.ad 0)), (3, .ref (G1215.ad 50)), (4, .int (nI i))]) hE.1 hE.2.1 dL_law_1218 hl (by decide) rfl (fun ls hl => ?_)
  refine lv_aload_n hE.1 hE.2.1 dL_law_1220 rfl (lv_at hl 3 rfl) ?_
  refine lv_aload_n hE.1 hE.2.1 dL_law_1221 rfl (lv_at hl 1 rfl) ?_
  refine lv_iload hE.1 hE.2.1 dL_law_1222 (lv_at hl 5 rfl) ?_
  refine lv_iconst (v := nI 1) hE.1 hE.2.1 dL_law_1224 (by decide) ?_
  refine rn_iadd hE dL_law_1225 ?_
  refine sc_ld (i := i + 1) hE hXs hbl hbA hH (by omega) hL3 dL_law_1226 ?_
  refine lv_aload_n hE.1 hE.2.1 dL_law_1227 rfl (lv_at hl 1 rfl) ?_
  refine lv_iload hE.1 hE.2.1 dL_law_1228 (lv_at hl 5 rfl) ?_
  refine lv_iconst (v := nI 2) hE.1 hE.2.1 dL_law_1230 (by decide) ?_
  refine rn_iadd hE dL_law_1231 ?_
  refine sc_ld (i := i + 2) hE hXs hbl hbA hH (by omega) hL3 dL_law_1232 ?_
  refine rg_VI (As := [.int (xs (i + 1)), .int (xs (i + 2))]) (rest := []) hE hml hH mc_L_134 (c_failing l z G1215 hM iv1215 jv1215 a hSt (xs (i + 1)) (xs (i + 2))) hM.1.1 hM.1.2 (by decide) rfl ⟨Nat.le_of_ble_eq_true rfl, Nat.le_of_ble_eq_true rfl⟩ rfl hl.1 (by simp [Value.category]) dL_law_1233 ⟨by show (cells + 4) + 0 ≤ 601024; omega, by show (slots + 24) + 0 ≤ 7293034; omega⟩ (fun r1233 G1233 iv1233 jv1233 H locs hp1233 hH => ?_)
  obtain ⟨rfl, rfl, ⟨h00, rfl, hSt⟩, hFm⟩ := hp1233
  have hC := hCn.fr hFm (Q := fun _ _ => False) FrJ.rf (fun lb j h1 h2 => by simp only [pM] at h2; omega) (fun _ _ _ h => h)
  refine lv_istore (lv' := [(6, .int ((spFailing a (xs (i + 1)) (xs (i + 2))).2.1)), (5, .int (nI (spFailing a (xs (i + 1)) (xs (i + 2))).1)), (0, .ref b), (1, .ref (G1215.ad 100)), (2, .ref (G1215.ad 0)), (3, .ref (G1215.ad 50)), (4, .int (nI i))]) hE.1 hE.2.1 dL_law_1236 hl (by decide) rfl (fun ls hl => ?_)
  refine lv_aload_n hE.1 hE.2.1 dL_law_1238 rfl (lv_at hl 4 rfl) ?_
  refine rg_VI (As := []) (rest := []) hE hml hH mc_L_83 (c_thrown l z G1215 hM iv1233 jv1215) hM.1.1 hM.1.2 (by decide) rfl ⟨Nat.le_of_ble_eq_true rfl, Nat.le_of_ble_eq_true rfl⟩ rfl hl.1 (by simp [Value.category]) dL_law_1239 ⟨by show ((cells + 4) + 0) + 0 ≤ 601024; omega, by show ((slots + 24) + 0) + 0 ≤ 7293034; omega⟩ (fun r1239 G1239 iv1239 jv1239 H locs hp1239 hH => ?_)
  obtain ⟨rfl, rfl, rfl, rfl⟩ := hp1239
  refine rn_as (v' := nI (spFailing a (xs (i + 1)) (xs (i + 2))).1) h00 ?_
  refine lv_iload hE.1 hE.2.1 dL_law_1242 (lv_at hl 1 rfl) ?_
  refine lv_icmp_eq (tgt := 1249) hE.1 hE.2.1 dL_law_1244 (by decide) (fun c1244 => ?_) (fun c1244 => ?_)
  · refine lv_iload hE.1 hE.2.1 dL_law_1249 (lv_at hl 1 rfl) ?_
    refine lv_if_ne (tgt := 1266) hE.1 hE.2.1 dL_law_1251 (by decide) (fun c1251 => ?_) (fun c1251 => ?_)
    · refine lv_goto (tgt := 1405) hE.1 hE.2.1 dL_law_1266 (by decide) ?_
      exact kk _ _ _ _ _ _ _ _ _ hH ⟨hM, hSt, hC, hO⟩ ⟨by show (((cells + 4) + 0) + 0) ≤ 200 + 4 * (i + 6) + 60 * (aT (spFailing a (xs (i + 1)) (xs (i + 2))).2.2).length + 10 * (aP (spFailing a (xs (i + 1)) (xs (i + 2))).2.2).length; omega, by show (((slots + 24) + 0) + 0) ≤ 60000 + 24 * (i + 6) + 83000 * (aT (spFailing a (xs (i + 1)) (xs (i + 2))).2.2).length + 700 * (aP (spFailing a (xs (i + 1)) (xs (i + 2))).2.2).length; omega⟩ (lv_sub hl [2, 3, 4, 5, 6] rfl)
    · have hz0 : (spFailing a (xs (i + 1)) (xs (i + 2))).1 = 0 := (nI_eq (Nat.lt_trans h3 (by decide)) (by decide)).mp c1251
      refine lv_aload_n hE.1 hE.2.1 dL_law_1254 rfl (lv_at hl 5 rfl) ?_
      refine lv_iconst (v := nI 0) hE.1 hE.2.1 dL_law_1255 (by decide) ?_
      refine rg_lald hE hH (hO.1) (hO.2.1) (by rw [hO.2.2]; decide) (v := (spFailing a (xs (i + 1)) (xs (i + 2))).2.1.toInt64) (hov hz0) dL_law_1256 ?_
      refine lv_iload hE.1 hE.2.1 dL_law_1257 (lv_at hl 0 rfl) ?_
      refine lv_i2l (v := ((spFailing a (xs (i + 1)) (xs (i + 2))).2.1).toInt64) hE.1 hE.2.1 dL_law_1259 rfl ?_
      refine lv_lcmp hE.1 hE.2.1 dL_law_1260 ?_
      refine lv_if_eq (tgt := 1266) hE.1 hE.2.1 dL_law_1261 (by decide) (fun c1261 => ?_) (fun c1261 => ?_)
      · refine lv_goto (tgt := 1405) hE.1 hE.2.1 dL_law_1266 (by decide) ?_
        exact kk _ _ _ _ _ _ _ _ _ hH ⟨hM, hSt, hC, hO⟩ ⟨by show (((cells + 4) + 0) + 0) ≤ 200 + 4 * (i + 6) + 60 * (aT (spFailing a (xs (i + 1)) (xs (i + 2))).2.2).length + 10 * (aP (spFailing a (xs (i + 1)) (xs (i + 2))).2.2).length; omega, by show (((slots + 24) + 0) + 0) ≤ 60000 + 24 * (i + 6) + 83000 * (aT (spFailing a (xs (i + 1)) (xs (i + 2))).2.2).length + 700 * (aP (spFailing a (xs (i + 1)) (xs (i + 2))).2.2).length; omega⟩ (lv_sub hl [2, 3, 4, 5, 6] rfl)
      · exact (c1261 lc_self).elim
  · exact (c1244 rfl).elim
set_option maxRecDepth 100000 in
set_option maxHeartbeats 4000000 in
theorem lo_17 {p : Program} {l : Launch} {e : Env} {s : State} {m : MethodId} {below : List Frame} {meth : Method} {c : Code} {D : va_G} {cy : Nat → ClassId} {z : ZK} {b L : Nat} {xs : Nat → Int32} {Q : State → Prop} (hLE : lwE p l s m meth c D cy z b L xs) {i : Nat} (hi : i + 5 < L) {G : GW} {iv : IV} {jv : JV} {a : AS} {H : Heap} {locs : List Loc} {cells slots : Nat} {ls : Array Slot} (hH : HS D cy G (fun q : Nat => s.heap.size ≤ q) s.heap iv jv H locs) (hS : lwS G iv jv a) (hB : lwB i a cells slots) (hl : lv_has ls 7 (lvL G b i)) (kk : ∀ (G' : GW) (iv' : IV) (jv' : JV) (a' : AS) (H' : Heap) (locs' : List Loc) (cells' slots' : Nat) (ls' : Array Slot), HS D cy G' (fun q : Nat => s.heap.size ≤ q) s.heap iv' jv' H' locs' → lwS G' iv' jv' a' → lwB (i + 6) a' cells' slots' → lv_has ls' 7 (lvL G' b i) → W p l e room_1 s m #[Value.ref b] below meth c H' locs' cells' slots' Q (F0 m 1405 ls' [])) : W p l e room_1 s m #[Value.ref b] below meth c H locs cells slots Q (F0 m 1269 ls []) := by
  obtain ⟨hE, hml, hXs, hbl, hlt, hL3, hrt, hlk⟩ := hLE
  have hbA : ¬ (fun q : Nat => s.heap.size ≤ q) b := Nat.not_le.mpr hbl
  obtain ⟨hM, hSt, hC, hO⟩ := hS
  obtain ⟨hBc, hBs⟩ := hB
  have hT6 := hC.2.2.2.2.1.2.1
  have hP12 := hC.2.2.2.2.2.1.2.1
  have hl : lv_has ls 7 [(0, .ref b), (1, .ref (G.ad 100)), (2, .ref (G.ad 0)), (3, .ref (G.ad 50)), (4, .int (nI i))] := hl
  refine lv_aload_n hE.1 hE.2.1 dL_law_1269 rfl (lv_at hl 1 rfl) ?_
  refine lv_aload_n hE.1 hE.2.1 dL_law_1270 rfl (lv_at hl 0 rfl) ?_
  refine lv_iload hE.1 hE.2.1 dL_law_1271 (lv_at hl 4 rfl) ?_
  refine lv_iconst (v := nI 1) hE.1 hE.2.1 dL_law_1273 (by decide) ?_
  refine rn_iadd hE dL_law_1274 ?_
  refine sc_ld (i := i + 1) hE hXs hbl hbA hH (by omega) hL3 dL_law_1275 ?_
  refine lv_aload_n hE.1 hE.2.1 dL_law_1276 rfl (lv_at hl 0 rfl) ?_
  refine lv_iload hE.1 hE.2.1 dL_law_1277 (lv_at hl 4 rfl) ?_
  refine lv_iconst (v := nI 2) hE.1 hE.2.1 dL_law_1279 (by decide) ?_
  refine rn_iadd hE dL_law_1280 ?_
  refine sc_ld (i := i + 2) hE hXs hbl hbA hH (by omega) hL3 dL_law_1281 ?_
  refine lv_aload_n hE.1 hE.2.1 dL_law_1282 rfl (lv_at hl 0 rfl) ?_
  refine lv_iload hE.1 hE.2.1 dL_law_1283 (lv_at hl 4 rfl) ?_
  refine lv_iconst (v := nI 3) hE.1 hE.2.1 dL_law_1285 (by decide) ?_
  refine rn_iadd hE dL_law_1286 ?_
  refine sc_ld (i := i + 3) hE hXs hbl hbA hH (by omega) hL3 dL_law_1287 ?_
  refine lv_aload_n hE.1 hE.2.1 dL_law_1288 rfl (lv_at hl 3 rfl) ?_
  refine rh_SI (As := [.ref (G.ad 100), .int (xs (i + 1)), .int (xs (i + 2)), .int (xs (i + 3)), .ref (G.ad 50)]) (rest := []) hE hml hH mc_L_135 (c_L_changed l z hlt G iv jv a hC hO (xs (i + 1)) (xs (i + 2)) (xs (i + 3))) rfl ⟨Nat.le_of_ble_eq_true rfl, Nat.le_of_ble_eq_true rfl⟩ rfl hl.1 (by simp [Value.category]) dL_law_1289 ⟨by show cells + 4 ≤ 601024; omega, by show slots + 24 ≤ 7293034; omega⟩ (fun r1289 G1289 iv1289 jv1289 H locs hp1289 hH => ?_)
  obtain ⟨hEX, rfl, hov, hCn, hFr, hFj, h3, hln⟩ := hp1289
  have hlt1 := hln.1
  have hlp1 := hln.2
  have hl : lv_has ls 7 [(0, .ref b), (1, .ref (G1289.ad 100)), (2, .ref (G1289.ad 0)), (3, .ref (G1289.ad 50)), (4, .int (nI i))] := by rw [hEX.adm hC.1.1.1, hEX.adm hM.1.1, hEX.adm hO.1]; exact hl
  have hM := hM.e hEX (by decide)
  have hSt := hSt.fr hFr (fun lb j h1 h2 => by omega)
  have hO := hO.em hEX
  refine lv_istore (lv' := [(5, .int (nI (spChanged a (xs (i + 1)) (xs (i + 2)) (xs (i + 3))).1)), (0, .ref b), (1, .ref (G1289.ad 100)), (2, .ref (G1289.ad 0)), (3, .ref (G1289.ad 50)), (4, .int (nI i))]) hE.1 hE.2.1 dL_law_1292 hl (by decide) rfl (fun ls hl => ?_)
  refine lv_aload_n hE.1 hE.2.1 dL_law_1294 rfl (lv_at hl 3 rfl) ?_
  refine lv_aload_n hE.1 hE.2.1 dL_law_1295 rfl (lv_at hl 1 rfl) ?_
  refine lv_iload hE.1 hE.2.1 dL_law_1296 (lv_at hl 5 rfl) ?_
  refine lv_iconst (v := nI 1) hE.1 hE.2.1 dL_law_1298 (by decide) ?_
  refine rn_iadd hE dL_law_1299 ?_
  refine sc_ld (i := i + 1) hE hXs hbl hbA hH (by omega) hL3 dL_law_1300 ?_
  refine lv_aload_n hE.1 hE.2.1 dL_law_1301 rfl (lv_at hl 1 rfl) ?_
  refine lv_iload hE.1 hE.2.1 dL_law_1302 (lv_at hl 5 rfl) ?_
  refine lv_iconst (v := nI 2) hE.1 hE.2.1 dL_law_1304 (by decide) ?_
  refine rn_iadd hE dL_law_1305 ?_
  refine sc_ld (i := i + 2) hE hXs hbl hbA hH (by omega) hL3 dL_law_1306 ?_
  refine lv_aload_n hE.1 hE.2.1 dL_law_1307 rfl (lv_at hl 1 rfl) ?_
  refine lv_iload hE.1 hE.2.1 dL_law_1308 (lv_at hl 5 rfl) ?_
  refine lv_iconst (v := nI 3) hE.1 hE.2.1 dL_law_1310 (by decide) ?_
  refine rn_iadd hE dL_law_1311 ?_
  refine sc_ld (i := i + 3) hE hXs hbl hbA hH (by omega) hL3 dL_law_1312 ?_
  refine rg_VI (As := [.int (xs (i + 1)), .int (xs (i + 2)), .int (xs (i + 3))]) (rest := []) hE hml hH mc_L_137 (c_changed l z G1289 hM iv1289 jv1289 a hSt (xs (i + 1)) (xs (i + 2)) (xs (i + 3))) hM.1.1 hM.1.2 (by decide) rfl ⟨Nat.le_of_ble_eq_true rfl, Nat.le_of_ble_eq_true rfl⟩ rfl hl.1 (by simp [Value.category]) dL_law_1313 ⟨by show (cells + 4) + 0 ≤ 601024; omega, by show (slots + 24) + 0 ≤ 7293034; omega⟩ (fun r1313 G1313 iv1313 jv1313 H locs hp1313 hH => ?_)
  obtain ⟨rfl, rfl, ⟨h00, rfl, hSt⟩, hFm⟩ := hp1313
  have hC := hCn.fr hFm (Q := fun _ _ => False) FrJ.rf (fun lb j h1 h2 => by simp only [pM] at h2; omega) (fun _ _ _ h => h)
  refine lv_istore (lv' := [(6, .int ((spChanged a (xs (i + 1)) (xs (i + 2)) (xs (i + 3))).2.1)), (5, .int (nI (spChanged a (xs (i + 1)) (xs (i + 2)) (xs (i + 3))).1)), (0, .ref b), (1, .ref (G1289.ad 100)), (2, .ref (G1289.ad 0)), (3, .ref (G1289.ad 50)), (4, .int (nI i))]) hE.1 hE.2.1 dL_law_1316 hl (by decide) rfl (fun ls hl => ?_)
  refine lv_aload_n hE.1 hE.2.1 dL_law_1318 rfl (lv_at hl 4 rfl) ?_
  refine rg_VI (As := []) (rest := []) hE hml hH mc_L_83 (c_thrown l z G1289 hM iv1313 jv1289) hM.1.1 hM.1.2 (by decide) rfl ⟨Nat.le_of_ble_eq_true rfl, Nat.le_of_ble_eq_true rfl⟩ rfl hl.1 (by simp [Value.category]) dL_law_1319 ⟨by show ((cells + 4) + 0) + 0 ≤ 601024; omega, by show ((slots + 24) + 0) + 0 ≤ 7293034; omega⟩ (fun r1319 G1319 iv1319 jv1319 H locs hp1319 hH => ?_)
  obtain ⟨rfl, rfl, rfl, rfl⟩ := hp1319
  refine rn_as (v' := nI (spChanged a (xs (i + 1)) (xs (i + 2)) (xs (i + 3))).1) h00 ?_
  refine lv_iload hE.1 hE.2.1 dL_law_1322 (lv_at hl 1 rfl) ?_
  refine lv_icmp_eq (tgt := 1329) hE.1 hE.2.1 dL_law_1324 (by decide) (fun c1324 => ?_) (fun c1324 => ?_)
  · refine lv_iload hE.1 hE.2.1 dL_law_1329 (lv_at hl 1 rfl) ?_
    refine lv_if_ne (tgt := 1346) hE.1 hE.2.1 dL_law_1331 (by decide) (fun c1331 => ?_) (fun c1331 => ?_)
    · refine lv_goto (tgt := 1405) hE.1 hE.2.1 dL_law_1346 (by decide) ?_
      exact kk _ _ _ _ _ _ _ _ _ hH ⟨hM, hSt, hC, hO⟩ ⟨by show (((cells + 4) + 0) + 0) ≤ 200 + 4 * (i + 6) + 60 * (aT (spChanged a (xs (i + 1)) (xs (i + 2)) (xs (i + 3))).2.2).length + 10 * (aP (spChanged a (xs (i + 1)) (xs (i + 2)) (xs (i + 3))).2.2).length; omega, by show (((slots + 24) + 0) + 0) ≤ 60000 + 24 * (i + 6) + 83000 * (aT (spChanged a (xs (i + 1)) (xs (i + 2)) (xs (i + 3))).2.2).length + 700 * (aP (spChanged a (xs (i + 1)) (xs (i + 2)) (xs (i + 3))).2.2).length; omega⟩ (lv_sub hl [2, 3, 4, 5, 6] rfl)
    · have hz0 : (spChanged a (xs (i + 1)) (xs (i + 2)) (xs (i + 3))).1 = 0 := (nI_eq (Nat.lt_trans h3 (by decide)) (by decide)).mp c1331
      refine lv_aload_n hE.1 hE.2.1 dL_law_1334 rfl (lv_at hl 5 rfl) ?_
      refine lv_iconst (v := nI 0) hE.1 hE.2.1 dL_law_1335 (by decide) ?_
      refine rg_lald hE hH (hO.1) (hO.2.1) (by rw [hO.2.2]; decide) (v := (spChanged a (xs (i + 1)) (xs (i + 2)) (xs (i + 3))).2.1.toInt64) (hov hz0) dL_law_1336 ?_
      refine lv_iload hE.1 hE.2.1 dL_law_1337 (lv_at hl 0 rfl) ?_
      refine lv_i2l (v := ((spChanged a (xs (i + 1)) (xs (i + 2)) (xs (i + 3))).2.1).toInt64) hE.1 hE.2.1 dL_law_1339 rfl ?_
      refine lv_lcmp hE.1 hE.2.1 dL_law_1340 ?_
      refine lv_if_eq (tgt := 1346) hE.1 hE.2.1 dL_law_1341 (by decide) (fun c1341 => ?_) (fun c1341 => ?_)
      · refine lv_goto (tgt := 1405) hE.1 hE.2.1 dL_law_1346 (by decide) ?_
        exact kk _ _ _ _ _ _ _ _ _ hH ⟨hM, hSt, hC, hO⟩ ⟨by show (((cells + 4) + 0) + 0) ≤ 200 + 4 * (i + 6) + 60 * (aT (spChanged a (xs (i + 1)) (xs (i + 2)) (xs (i + 3))).2.2).length + 10 * (aP (spChanged a (xs (i + 1)) (xs (i + 2)) (xs (i + 3))).2.2).length; omega, by show (((slots + 24) + 0) + 0) ≤ 60000 + 24 * (i + 6) + 83000 * (aT (spChanged a (xs (i + 1)) (xs (i + 2)) (xs (i + 3))).2.2).length + 700 * (aP (spChanged a (xs (i + 1)) (xs (i + 2)) (xs (i + 3))).2.2).length; omega⟩ (lv_sub hl [2, 3, 4, 5, 6] rfl)
      · exact (c1341 lc_self).elim
  · exact (c1324 rfl).elim
set_option maxRecDepth 100000 in
set_option maxHeartbeats 4000000 in
theorem lo_18 {p : Program} {l : Launch} {e : Env} {s : State} {m : MethodId} {below : List Frame} {meth : Method} {c : Code} {D : va_G} {cy : Nat → ClassId} {z : ZK} {b L : Nat} {xs : Nat → Int32} {Q : State → Prop} (hLE : lwE p l s m meth c D cy z b L xs) {i : Nat} (hi : i + 5 < L) {G : GW} {iv : IV} {jv : JV} {a : AS} {H : Heap} {locs : List Loc} {cells slots : Nat} {ls : Array Slot} (hH : HS D cy G (fun q : Nat => s.heap.size ≤ q) s.heap iv jv H locs) (hS : lwS G iv jv a) (hB : lwB i a cells slots) (hl : lv_has ls 7 (lvL G b i)) (kk : ∀ (G' : GW) (iv' : IV) (jv' : JV) (a' : AS) (H' : Heap) (locs' : List Loc) (cells' slots' : Nat) (ls' : Array Slot), HS D cy G' (fun q : Nat => s.heap.size ≤ q) s.heap iv' jv' H' locs' → lwS G' iv' jv' a' → lwB (i + 6) a' cells' slots' → lv_has ls' 7 (lvL G' b i) → W p l e room_1 s m #[Value.ref b] below meth c H' locs' cells' slots' Q (F0 m 1405 ls' [])) : W p l e room_1 s m #[Value.ref b] below meth c H locs cells slots Q (F0 m 1349 ls []) := by
  obtain ⟨hE, hml, hXs, hbl, hlt, hL3, hrt, hlk⟩ := hLE
  have hbA : ¬ (fun q : Nat => s.heap.size ≤ q) b := Nat.not_le.mpr hbl
  obtain ⟨hM, hSt, hC, hO⟩ := hS
  obtain ⟨hBc, hBs⟩ := hB
  have hT6 := hC.2.2.2.2.1.2.1
  have hP12 := hC.2.2.2.2.2.1.2.1
  have hl : lv_has ls 7 [(0, .ref b), (1, .ref (G.ad 100)), (2, .ref (G.ad 0)), (3, .ref (G.ad 50)), (4, .int (nI i))] := hl
  refine lv_aload_n hE.1 hE.2.1 dL_law_1349 rfl (lv_at hl 1 rfl) ?_
  refine lv_aload_n hE.1 hE.2.1 dL_law_1350 rfl (lv_at hl 0 rfl) ?_
  refine lv_iload hE.1 hE.2.1 dL_law_1351 (lv_at hl 4 rfl) ?_
  refine lv_iconst (v := nI 1) hE.1 hE.2.1 dL_law_1353 (by decide) ?_
  refine rn_iadd hE dL_law_1354 ?_
  refine sc_ld (i := i + 1) hE hXs hbl hbA hH (by omega) hL3 dL_law_1355 ?_
  refine lv_aload_n hE.1 hE.2.1 dL_law_1356 rfl (lv_at hl 3 rfl) ?_
  refine rh_SI (As := [.ref (G.ad 100), .int (xs (i + 1)), .ref (G.ad 50)]) (rest := []) hE hml hH mc_L_138 (c_L_count l z hlt G iv jv a hC hO (xs (i + 1))) rfl ⟨Nat.le_of_ble_eq_true rfl, Nat.le_of_ble_eq_true rfl⟩ rfl hl.1 (by simp [Value.category]) dL_law_1357 ⟨by show cells + 4 ≤ 601024; omega, by show slots + 24 ≤ 7293034; omega⟩ (fun r1357 G1357 iv1357 jv1357 H locs hp1357 hH => ?_)
  obtain ⟨hEX, rfl, hov, hCn, hFr, hFj, h3, hln⟩ := hp1357
  have hlt1 := hln.1
  have hlp1 := hln.2
  have hl : lv_has ls 7 [(0, .ref b), (1, .ref (G1357.ad 100)), (2, .ref (G1357.ad 0)), (3, .ref (G1357.ad 50)), (4, .int (nI i))] := by rw [hEX.adm hC.1.1.1, hEX.adm hM.1.1, hEX.adm hO.1]; exact hl
  have hM := hM.e hEX (by decide)
  have hSt := hSt.fr hFr (fun lb j h1 h2 => by omega)
  have hO := hO.em hEX
  refine lv_istore (lv' := [(5, .int (nI (spCount a (xs (i + 1))).1)), (0, .ref b), (1, .ref (G1357.ad 100)), (2, .ref (G1357.ad 0)), (3, .ref (G1357.ad 50)), (4, .int (nI i))]) hE.1 hE.2.1 dL_law_1360 hl (by decide) rfl (fun ls hl => ?_)
  refine lv_aload_n hE.1 hE.2.1 dL_law_1362 rfl (lv_at hl 3 rfl) ?_
  refine lv_aload_n hE.1 hE.2.1 dL_law_1363 rfl (lv_at hl 1 rfl) ?_
  refine lv_iload hE.1 hE.2.1 dL_law_1364 (lv_at hl 5 rfl) ?_
  refine lv_iconst (v := nI 1) hE.1 hE.2.1 dL_law_1366 (by decide) ?_
  refine rn_iadd hE dL_law_1367 ?_
  refine sc_ld (i := i + 1) hE hXs hbl hbA hH (by omega) hL3 dL_law_1368 ?_
  refine rg_VI (As := [.int (xs (i + 1))]) (rest := []) hE hml hH mc_L_140 (c_count l z G1357 hM iv1357 jv1357 a hSt (xs (i + 1))) hM.1.1 hM.1.2 (by decide) rfl ⟨Nat.le_of_ble_eq_true rfl, Nat.le_of_ble_eq_true rfl⟩ rfl hl.1 (by simp [Value.category]) dL_law_1369 ⟨by show (cells + 4) + 0 ≤ 601024; omega, by show (slots + 24) + 0 ≤ 7293034; omega⟩ (fun r1369 G1369 iv1369 jv1369 H locs hp1369 hH => ?_)
  obtain ⟨rfl, rfl, ⟨h00, rfl, hSt⟩, hFm⟩ := hp1369
  have hC := hCn.fr hFm (Q := fun _ _ => False) FrJ.rf (fun lb j h1 h2 => by simp only [pM] at h2; omega) (fun _ _ _ h => h)
  refine lv_istore (lv' := [(6, .int ((spCount a (xs (i + 1))).2.1)), (5, .int (nI (spCount a (xs (i + 1))).1)), (0, .ref b), (1, .ref (G1357.ad 100)), (2, .ref (G1357.ad 0)), (3, .ref (G1357.ad 50)), (4, .int (nI i))]) hE.1 hE.2.1 dL_law_1372 hl (by decide) rfl (fun ls hl => ?_)
  refine lv_aload_n hE.1 hE.2.1 dL_law_1374 rfl (lv_at hl 4 rfl) ?_
  refine rg_VI (As := []) (rest := []) hE hml hH mc_L_83 (c_thrown l z G1357 hM iv1369 jv1357) hM.1.1 hM.1.2 (by decide) rfl ⟨Nat.le_of_ble_eq_true rfl, Nat.le_of_ble_eq_true rfl⟩ rfl hl.1 (by simp [Value.category]) dL_law_1375 ⟨by show ((cells + 4) + 0) + 0 ≤ 601024; omega, by show ((slots + 24) + 0) + 0 ≤ 7293034; omega⟩ (fun r1375 G1375 iv1375 jv1375 H locs hp1375 hH => ?_)
  obtain ⟨rfl, rfl, rfl, rfl⟩ := hp1375
  refine rn_as (v' := nI (spCount a (xs (i + 1))).1) h00 ?_
  refine lv_iload hE.1 hE.2.1 dL_law_1378 (lv_at hl 1 rfl) ?_
  refine lv_icmp_eq (tgt := 1385) hE.1 hE.2.1 dL_law_1380 (by decide) (fun c1380 => ?_) (fun c1380 => ?_)
  · refine lv_iload hE.1 hE.2.1 dL_law_1385 (lv_at hl 1 rfl) ?_
    refine lv_if_ne (tgt := 1402) hE.1 hE.2.1 dL_law_1387 (by decide) (fun c1387 => ?_) (fun c1387 => ?_)
    · refine lv_goto (tgt := 1405) hE.1 hE.2.1 dL_law_1402 (by decide) ?_
      exact kk _ _ _ _ _ _ _ _ _ hH ⟨hM, hSt, hC, hO⟩ ⟨by show (((cells + 4) + 0) + 0) ≤ 200 + 4 * (i + 6) + 60 * (aT (spCount a (xs (i + 1))).2.2).length + 10 * (aP (spCount a (xs (i + 1))).2.2).length; omega, by show (((slots + 24) + 0) + 0) ≤ 60000 + 24 * (i + 6) + 83000 * (aT (spCount a (xs (i + 1))).2.2).length + 700 * (aP (spCount a (xs (i + 1))).2.2).length; omega⟩ (lv_sub hl [2, 3, 4, 5, 6] rfl)
    · have hz0 : (spCount a (xs (i + 1))).1 = 0 := (nI_eq (Nat.lt_trans h3 (by decide)) (by decide)).mp c1387
      refine lv_aload_n hE.1 hE.2.1 dL_law_1390 rfl (lv_at hl 5 rfl) ?_
      refine lv_iconst (v := nI 0) hE.1 hE.2.1 dL_law_1391 (by decide) ?_
      refine rg_lald hE hH (hO.1) (hO.2.1) (by rw [hO.2.2]; decide) (v := (spCount a (xs (i + 1))).2.1.toInt64) (hov hz0) dL_law_1392 ?_
      refine lv_iload hE.1 hE.2.1 dL_law_1393 (lv_at hl 0 rfl) ?_
      refine lv_i2l (v := ((spCount a (xs (i + 1))).2.1).toInt64) hE.1 hE.2.1 dL_law_1395 rfl ?_
      refine lv_lcmp hE.1 hE.2.1 dL_law_1396 ?_
      refine lv_if_eq (tgt := 1402) hE.1 hE.2.1 dL_law_1397 (by decide) (fun c1397 => ?_) (fun c1397 => ?_)
      · refine lv_goto (tgt := 1405) hE.1 hE.2.1 dL_law_1402 (by decide) ?_
        exact kk _ _ _ _ _ _ _ _ _ hH ⟨hM, hSt, hC, hO⟩ ⟨by show (((cells + 4) + 0) + 0) ≤ 200 + 4 * (i + 6) + 60 * (aT (spCount a (xs (i + 1))).2.2).length + 10 * (aP (spCount a (xs (i + 1))).2.2).length; omega, by show (((slots + 24) + 0) + 0) ≤ 60000 + 24 * (i + 6) + 83000 * (aT (spCount a (xs (i + 1))).2.2).length + 700 * (aP (spCount a (xs (i + 1))).2.2).length; omega⟩ (lv_sub hl [2, 3, 4, 5, 6] rfl)
      · exact (c1397 lc_self).elim
  · exact (c1380 rfl).elim
