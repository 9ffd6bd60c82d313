theorem ms_J0_1059 : MS RJ0 1059 yJ3_checkIndex_8e157 cJ3_checkIndex_8e157 3 (some .int) 3 := ⟨b2 144 rfl rfl, b2 145 rfl rfl, b1 17 rfl rfl, b2 146 rfl rfl, by decide, by decide, by decide +kernel⟩
def sB (i j : Nat) : Nat := ((sT.getD i ("", 0, "")).2.2.toList.map Char.toNat).getD j 0
theorem sB_ok : ∀ i, i < 30 → ∀ j, j < sLen i → (sByt i).getD j 0 = nI (sB i j) ∧ sB i j < 128 := by decide +kernel
theorem b255 : ∀ b, b < 128 → ((nI b &&& nI 255).toUInt32 % 65536).toInt32 = nI b := by decide +kernel
set_option maxRecDepth 100000 in
set_option maxHeartbeats 4000000 in
theorem c_pchk (l : Launch) (z : ZK) (G : GW) (iv : IV) (jv : JV) (j n : Nat) (o : Option Nat) (hj : j < n) (hn : n < 2147483648) : cI l z yJ3_checkIndex_8e157 cJ3_checkIndex_8e157 3 (some .int) 0 0 0 0 [.int (nI j), .int (nI n), va_rf o] G iv jv (fun r G' iv' jv' => G = G' ∧ iv = iv' ∧ jv = jv' ∧ r = nI j) := by
  intro sz
  cases o <;>
  · refine rg_entry rfl (Nat.le_of_ble_eq_true rfl) ?_
    intro pq eq sq mq bq methq cq ls hE hr hlk hml hnm hl hsz hH
    refine lv_iload_n hE.1 hE.2.1 dJ3_checkIndex_8e157_0 rfl (lv_at hl 0 rfl) ?_
    refine rn_if_lt (tgt := 9) hE dJ3_checkIndex_8e157_1 (by decide) (by omega) (fun c1 => c1.elim) (fun c1 => ?_)
    refine lv_iload_n hE.1 hE.2.1 dJ3_checkIndex_8e157_4 rfl (lv_at hl 0 rfl) ?_
    refine lv_iload_n hE.1 hE.2.1 dJ3_checkIndex_8e157_5 rfl (lv_at hl 1 rfl) ?_
    refine rn_icmp_lt (tgt := 16) hE dJ3_checkIndex_8e157_6 (by decide) (by omega) (by omega) (fun c6 => ?_) (fun c6 => by omega)
    refine lv_iload_n hE.1 hE.2.1 dJ3_checkIndex_8e157_16 rfl (lv_at hl 0 rfl) ?_
    exact rg_iret hE hr rfl hlk hH ⟨rfl, rfl, rfl, rfl⟩ dJ3_checkIndex_8e157_17
set_option maxRecDepth 100000 in
set_option maxHeartbeats 4000000 in
theorem c_schk (l : Launch) (z : ZK) (G : GW) (iv : IV) (jv : JV) (j n : Nat) (hj : j < n) (hn : n < 2147483648) : cV l z yJ0_checkIndex_df160 cJ0_checkIndex_df160 2 none 1 22 0 0 [.int (nI j), .int (nI n)] G iv jv (fun G' iv' jv' => G = G' ∧ iv = iv' ∧ jv = jv') := by
  intro sz
  refine rg_entry rfl (Nat.le_of_ble_eq_true rfl) ?_
  intro pq eq sq mq bq methq cq ls hE hr hlk hml hnm hl hsz hH
  have hl : lv_has ls 2 [(0, .int (nI j)), (1, .int (nI n))] := hl
  refine lv_iload_n hE.1 hE.2.1 dJ0_checkIndex_df160_0 rfl (lv_at hl 0 rfl) ?_
  refine lv_iload_n hE.1 hE.2.1 dJ0_checkIndex_df160_1 rfl (lv_at hl 1 rfl) ?_
  refine rs_fmt hE hH dJ0_checkIndex_df160_2 (fun o => ?_)
  refine rg_SI (As := [.int (nI j), .int (nI n), va_rf o]) (rest := []) hE hml hH ms_J0_1059 (c_pchk l z G iv jv j n o hj hn) rfl ⟨Nat.le_of_ble_eq_true rfl, Nat.le_of_ble_eq_true rfl⟩ rfl hl.1 (by decide) dJ0_checkIndex_df160_5 ⟨Nat.le_of_ble_eq_true rfl, Nat.le_of_ble_eq_true rfl⟩ (fun r G5 iv5 jv5 H locs hp hH => ?_)
  obtain ⟨rfl, rfl, rfl, rfl⟩ := hp
  refine lv_pop hE.1 hE.2.1 dJ0_checkIndex_df160_8 rfl ?_
  exact rg_vret hE hr hlk hH ⟨rfl, rfl, rfl⟩ dJ0_checkIndex_df160_9
set_option maxRecDepth 100000 in
set_option maxHeartbeats 4000000 in
theorem c_lcharAt (l : Launch) (z : ZK) (G : GW) (iv : IV) (jv : JV) (i j : Nat) (hi : i < 30) (hj : j < sLen i) : cI l z yJ1_charAt_3b067 cJ1_charAt_3b067 2 (some .char) 2 43 0 0 [.ref (z.2 i), .int (nI j)] G iv jv (fun r G' iv' jv' => G = G' ∧ iv = iv' ∧ jv = jv' ∧ r = nI (sB i j)) := by
  intro sz
  refine rg_entry rfl (Nat.le_of_ble_eq_true rfl) ?_
  intro pq eq sq mq bq methq cq ls hE hr hlk hml hnm hl hsz hH
  have hl : lv_has ls 2 [(0, .ref (z.2 i)), (1, .int (nI j))] := hl
  refine lv_iload_n hE.1 hE.2.1 dJ1_charAt_3b067_0 rfl (lv_at hl 1 rfl) ?_
  refine lv_aload_n hE.1 hE.2.1 dJ1_charAt_3b067_1 rfl (lv_at hl 0 rfl) ?_
  refine rs_len hE hH hi dJ1_charAt_3b067_2 ?_
  refine rg_SV (As := [.int (nI j), .int (nI (sLen i))]) (rest := []) hE hml hH ms_J1_9 (c_schk l z G iv jv j (sLen i) hj (sLen_lt i)) rfl ⟨Nat.le_of_ble_eq_true rfl, Nat.le_of_ble_eq_true rfl⟩ rfl hl.1 (by decide) dJ1_charAt_3b067_3 ⟨Nat.le_of_ble_eq_true rfl, Nat.le_of_ble_eq_true rfl⟩ (fun G5 iv5 jv5 H locs hp hH => ?_)
  obtain ⟨rfl, rfl, rfl⟩ := hp
  refine lv_aload_n hE.1 hE.2.1 dJ1_charAt_3b067_6 rfl (lv_at hl 0 rfl) ?_
  refine lv_iload_n hE.1 hE.2.1 dJ1_charAt_3b067_7 rfl (lv_at hl 1 rfl) ?_
  refine rs_byt hE hH hi hj dJ1_charAt_3b067_8 ?_
  rw [(sB_ok i hi j hj).1]
  refine lv_sipush (v := nI 255) hE.1 hE.2.1 dJ1_charAt_3b067_9 (by decide) ?_
  refine lv_iand hE.1 hE.2.1 dJ1_charAt_3b067_12 ?_
  refine lv_i2c (v := nI (sB i j)) hE.1 hE.2.1 dJ1_charAt_3b067_13 (b255 _ (sB_ok i hi j hj).2) ?_
  exact rg_iret hE hr (pk_charN (by have := (sB_ok i hi j hj).2; omega)).1 hlk hH ⟨rfl, rfl, rfl, rfl⟩ dJ1_charAt_3b067_14
set_option maxRecDepth 100000 in
set_option maxHeartbeats 4000000 in
theorem c_isLatin1 (l : Launch) (z : ZK) (G : GW) (iv : IV) (jv : JV) (i : Nat) (hi : i < 30) : cI l z yJ0_isLatin1_aae02 cJ0_isLatin1_aae02 1 (some .boolean) 0 0 0 0 [.ref (z.1 i)] G iv jv (fun r G' iv' jv' => G = G' ∧ iv = iv' ∧ jv = jv' ∧ r = bI true) := by
  intro sz
  refine rg_entry rfl (Nat.le_of_ble_eq_true rfl) ?_
  intro pq eq sq mq bq methq cq ls hE hr hlk hml hnm hl hsz hH
  have hl : lv_has ls 1 [(0, .ref (z.1 i))] := hl
  refine rs_cmp hE hH dJ0_isLatin1_aae02_0 ?_
  refine rn_ifb_eq (b := true) (tgt := 17) hE dJ0_isLatin1_aae02_3 (by decide) (fun h => by cases h) (fun _ => ?_)
  refine lv_aload_n hE.1 hE.2.1 dJ0_isLatin1_aae02_6 rfl (lv_at hl 0 rfl) ?_
  refine rs_cod hE hH hi dJ0_isLatin1_aae02_7 ?_
  refine rn_ifb_ne (b := false) (tgt := 17) hE dJ0_isLatin1_aae02_10 (by decide) (fun h => by cases h) (fun _ => ?_)
  refine lv_iconst (v := nI 1) hE.1 hE.2.1 dJ0_isLatin1_aae02_13 (by decide) ?_
  refine lv_goto (tgt := 18) hE.1 hE.2.1 dJ0_isLatin1_aae02_14 (by decide) ?_
  exact rg_iret hE hr nz_1 hlk hH ⟨rfl, rfl, rfl, rfl⟩ dJ0_isLatin1_aae02_18
set_option maxRecDepth 100000 in
set_option maxHeartbeats 4000000 in
theorem c_coder (l : Launch) (z : ZK) (G : GW) (iv : IV) (jv : JV) (i : Nat) (hi : i < 30) : cI l z yJ0_coder_7d493 cJ0_coder_7d493 1 (some .byte) 0 0 0 0 [.ref (z.1 i)] G iv jv (fun r G' iv' jv' => G = G' ∧ iv = iv' ∧ jv = jv' ∧ r = 0) := by
  intro sz
  refine rg_entry rfl (Nat.le_of_ble_eq_true rfl) ?_
  intro pq eq sq mq bq methq cq ls hE hr hlk hml hnm hl hsz hH
  have hl : lv_has ls 1 [(0, .ref (z.1 i))] := hl
  refine rs_cmp hE hH dJ0_coder_7d493_0 ?_
  refine rn_ifb_eq (b := true) (tgt := 13) hE dJ0_coder_7d493_3 (by decide) (fun h => by cases h) (fun _ => ?_)
  refine lv_aload_n hE.1 hE.2.1 dJ0_coder_7d493_6 rfl (lv_at hl 0 rfl) ?_
  refine rs_cod hE hH hi dJ0_coder_7d493_7 ?_
  refine lv_goto (tgt := 14) hE.1 hE.2.1 dJ0_coder_7d493_10 (by decide) ?_
  exact rg_iret hE hr rfl hlk hH ⟨rfl, rfl, rfl, rfl⟩ dJ0_coder_7d493_14
set_option maxRecDepth 100000 in
set_option maxHeartbeats 4000000 in
theorem c_slen (l : Launch) (z : ZK) (G : GW) (iv : IV) (jv : JV) (i : Nat) (hi : i < 30) : cI l z yJ0_length_8abf5 cJ0_length_8abf5 1 (some .int) 1 20 0 0 [.ref (z.1 i)] G iv jv (fun r G' iv' jv' => G = G' ∧ iv = iv' ∧ jv = jv' ∧ r = nI (sLen i)) := by
  intro sz
  refine rg_entry rfl (Nat.le_of_ble_eq_true rfl) ?_
  intro pq eq sq mq bq methq cq ls hE hr hlk hml hnm hl hsz hH
  have hl : lv_has ls 1 [(0, .ref (z.1 i))] := hl
  refine lv_aload_n hE.1 hE.2.1 dJ0_length_8abf5_0 rfl (lv_at hl 0 rfl) ?_
  refine rs_val hE hH hi dJ0_length_8abf5_1 ?_
  refine rs_len hE hH hi dJ0_length_8abf5_4 ?_
  refine lv_aload_n hE.1 hE.2.1 dJ0_length_8abf5_5 rfl (lv_at hl 0 rfl) ?_
  refine rg_XI (As := []) (rest := [.int (nI (sLen i))]) hE hml hH mx_J0_335 (c_coder l z G iv jv i hi) (rs_recv hE hH hi) rfl ⟨Nat.le_of_ble_eq_true rfl, Nat.le_of_ble_eq_true rfl⟩ rfl hl.1 (by simp [Value.category]) dJ0_length_8abf5_6 ⟨Nat.le_of_ble_eq_true rfl, Nat.le_of_ble_eq_true rfl⟩ (fun r G5 iv5 jv5 H locs hp hH => ?_)
  obtain ⟨rfl, rfl, rfl, rfl⟩ := hp
  refine lv_ishr hE.1 hE.2.1 dJ0_length_8abf5_9 ?_
  exact rg_iret hE hr rfl hlk hH ⟨rfl, rfl, rfl, sc_shr0 (sLen_lt i)⟩ dJ0_length_8abf5_10
set_option maxRecDepth 100000 in
set_option maxHeartbeats 4000000 in
theorem c_scharAt (l : Launch) (z : ZK) (G : GW) (iv : IV) (jv : JV) (i j : Nat) (hi : i < 30) (hj : j < sLen i) : cI l z yJ0_charAt_5068e cJ0_charAt_5068e 2 (some .char) 3 64 0 0 [.ref (z.1 i), .int (nI j)] G iv jv (fun r G' iv' jv' => G = G' ∧ iv = iv' ∧ jv = jv' ∧ r = nI (sB i j)) := by
  intro sz
  refine rg_entry rfl (Nat.le_of_ble_eq_true rfl) ?_
  intro pq eq sq mq bq methq cq ls hE hr hlk hml hnm hl hsz hH
  have hl : lv_has ls 2 [(0, .ref (z.1 i)), (1, .int (nI j))] := hl
  refine lv_aload_n hE.1 hE.2.1 dJ0_charAt_5068e_0 rfl (lv_at hl 0 rfl) ?_
  refine rg_XI (As := []) (rest := []) hE hml hH mx_J0_492 (c_isLatin1 l z G iv jv i hi) (rs_recv hE hH hi) rfl ⟨Nat.le_of_ble_eq_true rfl, Nat.le_of_ble_eq_true rfl⟩ rfl hl.1 (by decide) dJ0_charAt_5068e_1 ⟨Nat.le_of_ble_eq_true rfl, Nat.le_of_ble_eq_true rfl⟩ (fun r G5 iv5 jv5 H locs hp hH => ?_)
  obtain ⟨rfl, rfl, rfl, rfl⟩ := hp
  refine rn_ifb_eq (tgt := 16) hE dJ0_charAt_5068e_4 (by decide) (fun h => by cases h) (fun _ => ?_)
  refine lv_aload_n hE.1 hE.2.1 dJ0_charAt_5068e_7 rfl (lv_at hl 0 rfl) ?_
  refine rs_val hE hH hi dJ0_charAt_5068e_8 ?_
  refine lv_iload_n hE.1 hE.2.1 dJ0_charAt_5068e_11 rfl (lv_at hl 1 rfl) ?_
  refine rg_SI (As := [.ref (z.2 i), .int (nI j)]) (rest := []) hE hml hH ms_J0_495 (c_lcharAt l z G iv jv i j hi hj) rfl ⟨Nat.le_of_ble_eq_true rfl, Nat.le_of_ble_eq_true rfl⟩ rfl hl.1 (by decide) dJ0_charAt_5068e_12 ⟨Nat.le_of_ble_eq_true rfl, Nat.le_of_ble_eq_true rfl⟩ (fun r G5 iv5 jv5 H locs hp hH => ?_)
  obtain ⟨rfl, rfl, rfl, rfl⟩ := hp
  exact rg_iret hE hr (pk_charN (by have := (sB_ok i hi j hj).2; omega)).1 hlk hH ⟨rfl, rfl, rfl, rfl⟩ dJ0_charAt_5068e_15
