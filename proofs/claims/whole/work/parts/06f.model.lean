set_option maxRecDepth 100000 in
set_option maxHeartbeats 4000000 in
theorem c_ntz_32 (l : Launch) (z : ZK) (G : GW) (iv : IV) (jv : JV) (a : Nat) (hv : (nI a ^^^ (-1)) &&& (nI a - nI 1) = (-1)) : cI l z yJ6_numberOfTrailingZeros_0f7a4 cJ6_numberOfTrailingZeros_0f7a4 2 (some .int) 0 0 0 0 [.int (nI a)] G iv jv (fun r' G' iv' jv' => G = G' ∧ iv = iv' ∧ jv = jv' ∧ r' = nI 32) := by
  intro sz
  refine rg_entry rfl (Nat.le_of_ble_eq_true rfl) ?_
  intro pq eq sq mq bq methq cq ls hE hr hlk hml hnm hl hsz hH
  have hl : lv_has ls 2 [(0, .int (nI a))] := hl
  refine lv_iload_n hE.1 hE.2.1 dJ6_numberOfTrailingZeros_0f7a4_0 rfl (lv_at hl 0 rfl) ?_
  refine lv_iconst (v := -1) hE.1 hE.2.1 dJ6_numberOfTrailingZeros_0f7a4_1 (by decide) ?_
  refine lv_ixor hE.1 hE.2.1 dJ6_numberOfTrailingZeros_0f7a4_2 ?_
  refine lv_iload_n hE.1 hE.2.1 dJ6_numberOfTrailingZeros_0f7a4_3 rfl (lv_at hl 0 rfl) ?_
  refine lv_iconst (v := nI 1) hE.1 hE.2.1 dJ6_numberOfTrailingZeros_0f7a4_4 (by decide) ?_
  refine lv_isub hE.1 hE.2.1 dJ6_numberOfTrailingZeros_0f7a4_5 ?_
  refine lv_iand hE.1 hE.2.1 dJ6_numberOfTrailingZeros_0f7a4_6 ?_
  refine lv_istore_n (lv' := [(0, .int (((nI a) ^^^ (-1)) &&& ((nI a) - (nI 1))))]) hE.1 hE.2.1 dJ6_numberOfTrailingZeros_0f7a4_7 rfl hl (by decide) rfl (fun ls hl => ?_)
  have hl : lv_has ls 2 [(0, .int ((-1 : Int32)))] := by rw [← hv]; exact hl
  refine lv_iload_n hE.1 hE.2.1 dJ6_numberOfTrailingZeros_0f7a4_8 rfl (lv_at hl 0 rfl) ?_
  refine lv_if_gt (tgt := 17) hE.1 hE.2.1 dJ6_numberOfTrailingZeros_0f7a4_9 (by decide) (fun c9 => ?_) (fun c9 => ?_)
  · exact absurd c9 (by decide)
  · refine lv_iload_n hE.1 hE.2.1 dJ6_numberOfTrailingZeros_0f7a4_12 rfl (lv_at hl 0 rfl) ?_
    refine lv_bipush (v := nI 32) hE.1 hE.2.1 dJ6_numberOfTrailingZeros_0f7a4_13 (by decide) ?_
    refine lv_iand hE.1 hE.2.1 dJ6_numberOfTrailingZeros_0f7a4_15 ?_
    exact rg_iret hE hr rfl hlk hH ⟨rfl, rfl, rfl, by decide⟩ dJ6_numberOfTrailingZeros_0f7a4_16
set_option maxRecDepth 100000 in
set_option maxHeartbeats 4000000 in
theorem c_ntz_0 (l : Launch) (z : ZK) (G : GW) (iv : IV) (jv : JV) (a : Nat) (hv : (nI a ^^^ (-1)) &&& (nI a - nI 1) = 0) : cI l z yJ6_numberOfTrailingZeros_0f7a4 cJ6_numberOfTrailingZeros_0f7a4 2 (some .int) 0 0 0 0 [.int (nI a)] G iv jv (fun r' G' iv' jv' => G = G' ∧ iv = iv' ∧ jv = jv' ∧ r' = nI 0) := by
  intro sz
  refine rg_entry rfl (Nat.le_of_ble_eq_true rfl) ?_
  intro pq eq sq mq bq methq cq ls hE hr hlk hml hnm hl hsz hH
  have hl : lv_has ls 2 [(0, .int (nI a))] := hl
  refine lv_iload_n hE.1 hE.2.1 dJ6_numberOfTrailingZeros_0f7a4_0 rfl (lv_at hl 0 rfl) ?_
  refine lv_iconst (v := -1) hE.1 hE.2.1 dJ6_numberOfTrailingZeros_0f7a4_1 (by decide) ?_
  refine lv_ixor hE.1 hE.2.1 dJ6_numberOfTrailingZeros_0f7a4_2 ?_
  refine lv_iload_n hE.1 hE.2.1 dJ6_numberOfTrailingZeros_0f7a4_3 rfl (lv_at hl 0 rfl) ?_
  refine lv_iconst (v := nI 1) hE.1 hE.2.1 dJ6_numberOfTrailingZeros_0f7a4_4 (by decide) ?_
  refine lv_isub hE.1 hE.2.1 dJ6_numberOfTrailingZeros_0f7a4_5 ?_
  refine lv_iand hE.1 hE.2.1 dJ6_numberOfTrailingZeros_0f7a4_6 ?_
  refine lv_istore_n (lv' := [(0, .int (((nI a) ^^^ (-1)) &&& ((nI a) - (nI 1))))]) hE.1 hE.2.1 dJ6_numberOfTrailingZeros_0f7a4_7 rfl hl (by decide) rfl (fun ls hl => ?_)
  have hl : lv_has ls 2 [(0, .int ((0 : Int32)))] := by rw [← hv]; exact hl
  refine lv_iload_n hE.1 hE.2.1 dJ6_numberOfTrailingZeros_0f7a4_8 rfl (lv_at hl 0 rfl) ?_
  refine lv_if_gt (tgt := 17) hE.1 hE.2.1 dJ6_numberOfTrailingZeros_0f7a4_9 (by decide) (fun c9 => ?_) (fun c9 => ?_)
  · exact absurd c9 (by decide)
  · refine lv_iload_n hE.1 hE.2.1 dJ6_numberOfTrailingZeros_0f7a4_12 rfl (lv_at hl 0 rfl) ?_
    refine lv_bipush (v := nI 32) hE.1 hE.2.1 dJ6_numberOfTrailingZeros_0f7a4_13 (by decide) ?_
    refine lv_iand hE.1 hE.2.1 dJ6_numberOfTrailingZeros_0f7a4_15 ?_
    exact rg_iret hE hr rfl hlk hH ⟨rfl, rfl, rfl, by decide⟩ dJ6_numberOfTrailingZeros_0f7a4_16
set_option maxRecDepth 100000 in
set_option maxHeartbeats 4000000 in
theorem c_ntz_1 (l : Launch) (z : ZK) (G : GW) (iv : IV) (jv : JV) (a : Nat) (hv : (nI a ^^^ (-1)) &&& (nI a - nI 1) = 1) : cI l z yJ6_numberOfTrailingZeros_0f7a4 cJ6_numberOfTrailingZeros_0f7a4 2 (some .int) 0 0 0 0 [.int (nI a)] G iv jv (fun r' G' iv' jv' => G = G' ∧ iv = iv' ∧ jv = jv' ∧ r' = nI 1) := by
  intro sz
  refine rg_entry rfl (Nat.le_of_ble_eq_true rfl) ?_
  intro pq eq sq mq bq methq cq ls hE hr hlk hml hnm hl hsz hH
  have hl : lv_has ls 2 [(0, .int (nI a))] := hl
  refine lv_iload_n hE.1 hE.2.1 dJ6_numberOfTrailingZeros_0f7a4_0 rfl (lv_at hl 0 rfl) ?_
  refine lv_iconst (v := -1) hE.1 hE.2.1 dJ6_numberOfTrailingZeros_0f7a4_1 (by decide) ?_
  refine lv_ixor hE.1 hE.2.1 dJ6_numberOfTrailingZeros_0f7a4_2 ?_
  refine lv_iload_n hE.1 hE.2.1 dJ6_numberOfTrailingZeros_0f7a4_3 rfl (lv_at hl 0 rfl) ?_
  refine lv_iconst (v := nI 1) hE.1 hE.2.1 dJ6_numberOfTrailingZeros_0f7a4_4 (by decide) ?_
  refine lv_isub hE.1 hE.2.1 dJ6_numberOfTrailingZeros_0f7a4_5 ?_
  refine lv_iand hE.1 hE.2.1 dJ6_numberOfTrailingZeros_0f7a4_6 ?_
  refine lv_istore_n (lv' := [(0, .int (((nI a) ^^^ (-1)) &&& ((nI a) - (nI 1))))]) hE.1 hE.2.1 dJ6_numberOfTrailingZeros_0f7a4_7 rfl hl (by decide) rfl (fun ls hl => ?_)
  have hl : lv_has ls 2 [(0, .int ((1 : Int32)))] := by rw [← hv]; exact hl
  refine lv_iload_n hE.1 hE.2.1 dJ6_numberOfTrailingZeros_0f7a4_8 rfl (lv_at hl 0 rfl) ?_
  refine lv_if_gt (tgt := 17) hE.1 hE.2.1 dJ6_numberOfTrailingZeros_0f7a4_9 (by decide) (fun c9 => ?_) (fun c9 => ?_)
  · refine lv_iconst (v := (1 : Int32)) hE.1 hE.2.1 dJ6_numberOfTrailingZeros_0f7a4_17 (by decide) ?_
    refine lv_istore_n (lv' := [(1, .int ((1 : Int32))), (0, .int ((1 : Int32)))]) hE.1 hE.2.1 dJ6_numberOfTrailingZeros_0f7a4_18 rfl hl (by decide) rfl (fun ls hl => ?_)
    refine lv_iload_n hE.1 hE.2.1 dJ6_numberOfTrailingZeros_0f7a4_19 rfl (lv_at hl 1 rfl) ?_
    refine lv_ldcw (v := 65536) hE.1 hE.2.1 hE.2.2.1 (hE.2.2.2.1 _ (b3 196 rfl rfl)) dJ6_numberOfTrailingZeros_0f7a4_20 ?_
    refine lv_icmp_le (tgt := 34) hE.1 hE.2.1 dJ6_numberOfTrailingZeros_0f7a4_23 (by decide) (fun c23 => ?_) (fun c23 => ?_)
    · refine lv_iload_n hE.1 hE.2.1 dJ6_numberOfTrailingZeros_0f7a4_34 rfl (lv_at hl 1 rfl) ?_
      refine lv_sipush (v := (256 : Int32)) hE.1 hE.2.1 dJ6_numberOfTrailingZeros_0f7a4_35 (by decide) ?_
      refine lv_icmp_le (tgt := 49) hE.1 hE.2.1 dJ6_numberOfTrailingZeros_0f7a4_38 (by decide) (fun c38 => ?_) (fun c38 => ?_)
      · refine lv_iload_n hE.1 hE.2.1 dJ6_numberOfTrailingZeros_0f7a4_49 rfl (lv_at hl 1 rfl) ?_
        refine lv_bipush (v := (16 : Int32)) hE.1 hE.2.1 dJ6_numberOfTrailingZeros_0f7a4_50 (by decide) ?_
        refine lv_icmp_le (tgt := 62) hE.1 hE.2.1 dJ6_numberOfTrailingZeros_0f7a4_52 (by decide) (fun c52 => ?_) (fun c52 => ?_)
        · refine lv_iload_n hE.1 hE.2.1 dJ6_numberOfTrailingZeros_0f7a4_62 rfl (lv_at hl 1 rfl) ?_
          refine lv_iconst (v := (4 : Int32)) hE.1 hE.2.1 dJ6_numberOfTrailingZeros_0f7a4_63 (by decide) ?_
          refine lv_icmp_le (tgt := 74) hE.1 hE.2.1 dJ6_numberOfTrailingZeros_0f7a4_64 (by decide) (fun c64 => ?_) (fun c64 => ?_)
          · refine lv_iload_n hE.1 hE.2.1 dJ6_numberOfTrailingZeros_0f7a4_74 rfl (lv_at hl 0 rfl) ?_
            refine lv_iload_n hE.1 hE.2.1 dJ6_numberOfTrailingZeros_0f7a4_75 rfl (lv_at hl 1 rfl) ?_
            refine lv_iconst (v := (1 : Int32)) hE.1 hE.2.1 dJ6_numberOfTrailingZeros_0f7a4_76 (by decide) ?_
            refine lv_iushr (v := (((1 : Int32)).toUInt32 >>> (((1 : Int32)).toUInt32 &&& Int32.toUInt32 31)).toInt32) hE.1 hE.2.1 dJ6_numberOfTrailingZeros_0f7a4_77 rfl ?_
            refine lv_iadd hE.1 hE.2.1 dJ6_numberOfTrailingZeros_0f7a4_78 ?_
            exact rg_iret hE hr rfl hlk hH ⟨rfl, rfl, rfl, by decide⟩ dJ6_numberOfTrailingZeros_0f7a4_79
          · exact absurd (by decide) c64
        · exact absurd (by decide) c52
      · exact absurd (by decide) c38
    · exact absurd (by decide) c23
  · exact absurd (by decide) c9
set_option maxRecDepth 100000 in
set_option maxHeartbeats 4000000 in
theorem c_ntz_2 (l : Launch) (z : ZK) (G : GW) (iv : IV) (jv : JV) (a : Nat) (hv : (nI a ^^^ (-1)) &&& (nI a - nI 1) = 3) : cI l z yJ6_numberOfTrailingZeros_0f7a4 cJ6_numberOfTrailingZeros_0f7a4 2 (some .int) 0 0 0 0 [.int (nI a)] G iv jv (fun r' G' iv' jv' => G = G' ∧ iv = iv' ∧ jv = jv' ∧ r' = nI 2) := by
  intro sz
  refine rg_entry rfl (Nat.le_of_ble_eq_true rfl) ?_
  intro pq eq sq mq bq methq cq ls hE hr hlk hml hnm hl hsz hH
  have hl : lv_has ls 2 [(0, .int (nI a))] := hl
  refine lv_iload_n hE.1 hE.2.1 dJ6_numberOfTrailingZeros_0f7a4_0 rfl (lv_at hl 0 rfl) ?_
  refine lv_iconst (v := -1) hE.1 hE.2.1 dJ6_numberOfTrailingZeros_0f7a4_1 (by decide) ?_
  refine lv_ixor hE.1 hE.2.1 dJ6_numberOfTrailingZeros_0f7a4_2 ?_
  refine lv_iload_n hE.1 hE.2.1 dJ6_numberOfTrailingZeros_0f7a4_3 rfl (lv_at hl 0 rfl) ?_
  refine lv_iconst (v := nI 1) hE.1 hE.2.1 dJ6_numberOfTrailingZeros_0f7a4_4 (by decide) ?_
  refine lv_isub hE.1 hE.2.1 dJ6_numberOfTrailingZeros_0f7a4_5 ?_
  refine lv_iand hE.1 hE.2.1 dJ6_numberOfTrailingZeros_0f7a4_6 ?_
  refine lv_istore_n (lv' := [(0, .int (((nI a) ^^^ (-1)) &&& ((nI a) - (nI 1))))]) hE.1 hE.2.1 dJ6_numberOfTrailingZeros_0f7a4_7 rfl hl (by decide) rfl (fun ls hl => ?_)
  have hl : lv_has ls 2 [(0, .int ((3 : Int32)))] := by rw [← hv]; exact hl
  refine lv_iload_n hE.1 hE.2.1 dJ6_numberOfTrailingZeros_0f7a4_8 rfl (lv_at hl 0 rfl) ?_
  refine lv_if_gt (tgt := 17) hE.1 hE.2.1 dJ6_numberOfTrailingZeros_0f7a4_9 (by decide) (fun c9 => ?_) (fun c9 => ?_)
  · refine lv_iconst (v := (1 : Int32)) hE.1 hE.2.1 dJ6_numberOfTrailingZeros_0f7a4_17 (by decide) ?_
    refine lv_istore_n (lv' := [(1, .int ((1 : Int32))), (0, .int ((3 : Int32)))]) hE.1 hE.2.1 dJ6_numberOfTrailingZeros_0f7a4_18 rfl hl (by decide) rfl (fun ls hl => ?_)
    refine lv_iload_n hE.1 hE.2.1 dJ6_numberOfTrailingZeros_0f7a4_19 rfl (lv_at hl 1 rfl) ?_
    refine lv_ldcw (v := 65536) hE.1 hE.2.1 hE.2.2.1 (hE.2.2.2.1 _ (b3 196 rfl rfl)) dJ6_numberOfTrailingZeros_0f7a4_20 ?_
    refine lv_icmp_le (tgt := 34) hE.1 hE.2.1 dJ6_numberOfTrailingZeros_0f7a4_23 (by decide) (fun c23 => ?_) (fun c23 => ?_)
    · refine lv_iload_n hE.1 hE.2.1 dJ6_numberOfTrailingZeros_0f7a4_34 rfl (lv_at hl 1 rfl) ?_
      refine lv_sipush (v := (256 : Int32)) hE.1 hE.2.1 dJ6_numberOfTrailingZeros_0f7a4_35 (by decide) ?_
      refine lv_icmp_le (tgt := 49) hE.1 hE.2.1 dJ6_numberOfTrailingZeros_0f7a4_38 (by decide) (fun c38 => ?_) (fun c38 => ?_)
      · refine lv_iload_n hE.1 hE.2.1 dJ6_numberOfTrailingZeros_0f7a4_49 rfl (lv_at hl 1 rfl) ?_
        refine lv_bipush (v := (16 : Int32)) hE.1 hE.2.1 dJ6_numberOfTrailingZeros_0f7a4_50 (by decide) ?_
        refine lv_icmp_le (tgt := 62) hE.1 hE.2.1 dJ6_numberOfTrailingZeros_0f7a4_52 (by decide) (fun c52 => ?_) (fun c52 => ?_)
        · refine lv_iload_n hE.1 hE.2.1 dJ6_numberOfTrailingZeros_0f7a4_62 rfl (lv_at hl 1 rfl) ?_
          refine lv_iconst (v := (4 : Int32)) hE.1 hE.2.1 dJ6_numberOfTrailingZeros_0f7a4_63 (by decide) ?_
          refine lv_icmp_le (tgt := 74) hE.1 hE.2.1 dJ6_numberOfTrailingZeros_0f7a4_64 (by decide) (fun c64 => ?_) (fun c64 => ?_)
          · refine lv_iload_n hE.1 hE.2.1 dJ6_numberOfTrailingZeros_0f7a4_74 rfl (lv_at hl 0 rfl) ?_
            refine lv_iload_n hE.1 hE.2.1 dJ6_numberOfTrailingZeros_0f7a4_75 rfl (lv_at hl 1 rfl) ?_
            refine lv_iconst (v := (1 : Int32)) hE.1 hE.2.1 dJ6_numberOfTrailingZeros_0f7a4_76 (by decide) ?_
            refine lv_iushr (v := (((3 : Int32)).toUInt32 >>> (((1 : Int32)).toUInt32 &&& Int32.toUInt32 31)).toInt32) hE.1 hE.2.1 dJ6_numberOfTrailingZeros_0f7a4_77 rfl ?_
            refine lv_iadd hE.1 hE.2.1 dJ6_numberOfTrailingZeros_0f7a4_78 ?_
            exact rg_iret hE hr rfl hlk hH ⟨rfl, rfl, rfl, by decide⟩ dJ6_numberOfTrailingZeros_0f7a4_79
          · exact absurd (by decide) c64
        · exact absurd (by decide) c52
      · exact absurd (by decide) c38
    · exact absurd (by decide) c23
  · exact absurd (by decide) c9
set_option maxRecDepth 100000 in
set_option maxHeartbeats 4000000 in
theorem c_ntz_3 (l : Launch) (z : ZK) (G : GW) (iv : IV) (jv : JV) (a : Nat) (hv : (nI a ^^^ (-1)) &&& (nI a - nI 1) = 7) : cI l z yJ6_numberOfTrailingZeros_0f7a4 cJ6_numberOfTrailingZeros_0f7a4 2 (some .int) 0 0 0 0 [.int (nI a)] G iv jv (fun r' G' iv' jv' => G = G' ∧ iv = iv' ∧ jv = jv' ∧ r' = nI 3) := by
  intro sz
  refine rg_entry rfl (Nat.le_of_ble_eq_true rfl) ?_
  intro pq eq sq mq bq methq cq ls hE hr hlk hml hnm hl hsz hH
  have hl : lv_has ls 2 [(0, .int (nI a))] := hl
  refine lv_iload_n hE.1 hE.2.1 dJ6_numberOfTrailingZeros_0f7a4_0 rfl (lv_at hl 0 rfl) ?_
  refine lv_iconst (v := -1) hE.1 hE.2.1 dJ6_numberOfTrailingZeros_0f7a4_1 (by decide) ?_
  refine lv_ixor hE.1 hE.2.1 dJ6_numberOfTrailingZeros_0f7a4_2 ?_
  refine lv_iload_n hE.1 hE.2.1 dJ6_numberOfTrailingZeros_0f7a4_3 rfl (lv_at hl 0 rfl) ?_
  refine lv_iconst (v := nI 1) hE.1 hE.2.1 dJ6_numberOfTrailingZeros_0f7a4_4 (by decide) ?_
  refine lv_isub hE.1 hE.2.1 dJ6_numberOfTrailingZeros_0f7a4_5 ?_
  refine lv_iand hE.1 hE.2.1 dJ6_numberOfTrailingZeros_0f7a4_6 ?_
  refine lv_istore_n (lv' := [(0, .int (((nI a) ^^^ (-1)) &&& ((nI a) - (nI 1))))]) hE.1 hE.2.1 dJ6_numberOfTrailingZeros_0f7a4_7 rfl hl (by decide) rfl (fun ls hl => ?_)
  have hl : lv_has ls 2 [(0, .int ((7 : Int32)))] := by rw [← hv]; exact hl
  refine lv_iload_n hE.1 hE.2.1 dJ6_numberOfTrailingZeros_0f7a4_8 rfl (lv_at hl 0 rfl) ?_
  refine lv_if_gt (tgt := 17) hE.1 hE.2.1 dJ6_numberOfTrailingZeros_0f7a4_9 (by decide) (fun c9 => ?_) (fun c9 => ?_)
  · refine lv_iconst (v := (1 : Int32)) hE.1 hE.2.1 dJ6_numberOfTrailingZeros_0f7a4_17 (by decide) ?_
    refine lv_istore_n (lv' := [(1, .int ((1 : Int32))), (0, .int ((7 : Int32)))]) hE.1 hE.2.1 dJ6_numberOfTrailingZeros_0f7a4_18 rfl hl (by decide) rfl (fun ls hl => ?_)
    refine lv_iload_n hE.1 hE.2.1 dJ6_numberOfTrailingZeros_0f7a4_19 rfl (lv_at hl 1 rfl) ?_
    refine lv_ldcw (v := 65536) hE.1 hE.2.1 hE.2.2.1 (hE.2.2.2.1 _ (b3 196 rfl rfl)) dJ6_numberOfTrailingZeros_0f7a4_20 ?_
    refine lv_icmp_le (tgt := 34) hE.1 hE.2.1 dJ6_numberOfTrailingZeros_0f7a4_23 (by decide) (fun c23 => ?_) (fun c23 => ?_)
    · refine lv_iload_n hE.1 hE.2.1 dJ6_numberOfTrailingZeros_0f7a4_34 rfl (lv_at hl 1 rfl) ?_
      refine lv_sipush (v := (256 : Int32)) hE.1 hE.2.1 dJ6_numberOfTrailingZeros_0f7a4_35 (by decide) ?_
      refine lv_icmp_le (tgt := 49) hE.1 hE.2.1 dJ6_numberOfTrailingZeros_0f7a4_38 (by decide) (fun c38 => ?_) (fun c38 => ?_)
      · refine lv_iload_n hE.1 hE.2.1 dJ6_numberOfTrailingZeros_0f7a4_49 rfl (lv_at hl 1 rfl) ?_
        refine lv_bipush (v := (16 : Int32)) hE.1 hE.2.1 dJ6_numberOfTrailingZeros_0f7a4_50 (by decide) ?_
        refine lv_icmp_le (tgt := 62) hE.1 hE.2.1 dJ6_numberOfTrailingZeros_0f7a4_52 (by decide) (fun c52 => ?_) (fun c52 => ?_)
        · refine lv_iload_n hE.1 hE.2.1 dJ6_numberOfTrailingZeros_0f7a4_62 rfl (lv_at hl 1 rfl) ?_
          refine lv_iconst (v := (4 : Int32)) hE.1 hE.2.1 dJ6_numberOfTrailingZeros_0f7a4_63 (by decide) ?_
          refine lv_icmp_le (tgt := 74) hE.1 hE.2.1 dJ6_numberOfTrailingZeros_0f7a4_64 (by decide) (fun c64 => ?_) (fun c64 => ?_)
          · exact absurd c64 (by decide)
          · refine lv_iinc (v := (3 : Int32)) (lv' := [(1, .int ((3 : Int32))), (0, .int ((7 : Int32)))]) hE.1 hE.2.1 dJ6_numberOfTrailingZeros_0f7a4_67 hl (k := 0) rfl (by decide) (by decide) rfl (fun ls hl => ?_)
            refine lv_iload_n hE.1 hE.2.1 dJ6_numberOfTrailingZeros_0f7a4_70 rfl (lv_at hl 1 rfl) ?_
            refine lv_iconst (v := (2 : Int32)) hE.1 hE.2.1 dJ6_numberOfTrailingZeros_0f7a4_71 (by decide) ?_
            refine lv_iushr (v := (((7 : Int32)).toUInt32 >>> (((2 : Int32)).toUInt32 &&& Int32.toUInt32 31)).toInt32) hE.1 hE.2.1 dJ6_numberOfTrailingZeros_0f7a4_72 rfl ?_
            refine rn_as (v' := (1 : Int32)) (by decide) ?_
            refine lv_istore_n (lv' := [(0, .int ((1 : Int32))), (1, .int ((3 : Int32)))]) hE.1 hE.2.1 dJ6_numberOfTrailingZeros_0f7a4_73 rfl hl (by decide) rfl (fun ls hl => ?_)
            refine lv_iload_n hE.1 hE.2.1 dJ6_numberOfTrailingZeros_0f7a4_74 rfl (lv_at hl 1 rfl) ?_
            refine lv_iload_n hE.1 hE.2.1 dJ6_numberOfTrailingZeros_0f7a4_75 rfl (lv_at hl 0 rfl) ?_
            refine lv_iconst (v := (1 : Int32)) hE.1 hE.2.1 dJ6_numberOfTrailingZeros_0f7a4_76 (by decide) ?_
            refine lv_iushr (v := (((1 : Int32)).toUInt32 >>> (((1 : Int32)).toUInt32 &&& Int32.toUInt32 31)).toInt32) hE.1 hE.2.1 dJ6_numberOfTrailingZeros_0f7a4_77 rfl ?_
            refine lv_iadd hE.1 hE.2.1 dJ6_numberOfTrailingZeros_0f7a4_78 ?_
            exact rg_iret hE hr rfl hlk hH ⟨rfl, rfl, rfl, by decide⟩ dJ6_numberOfTrailingZeros_0f7a4_79
        · exact absurd (by decide) c52
      · exact absurd (by decide) c38
    · exact absurd (by decide) c23
  · exact absurd (by decide) c9
set_option maxRecDepth 100000 in
set_option maxHeartbeats 4000000 in
theorem c_ntz_4 (l : Launch) (z : ZK) (G : GW) (iv : IV) (jv : JV) (a : Nat) (hv : (nI a ^^^ (-1)) &&& (nI a - nI 1) = 15) : cI l z yJ6_numberOfTrailingZeros_0f7a4 cJ6_numberOfTrailingZeros_0f7a4 2 (some .int) 0 0 0 0 [.int (nI a)] G iv jv (fun r' G' iv' jv' => G = G' ∧ iv = iv' ∧ jv = jv' ∧ r' = nI 4) := by
  intro sz
  refine rg_entry rfl (Nat.le_of_ble_eq_true rfl) ?_
  intro pq eq sq mq bq methq cq ls hE hr hlk hml hnm hl hsz hH
  have hl : lv_has ls 2 [(0, .int (nI a))] := hl
  refine lv_iload_n hE.1 hE.2.1 dJ6_numberOfTrailingZeros_0f7a4_0 rfl (lv_at hl 0 rfl) ?_
  refine lv_iconst (v := -1) hE.1 hE.2.1 dJ6_numberOfTrailingZeros_0f7a4_1 (by decide) ?_
  refine lv_ixor hE.1 hE.2.1 dJ6_numberOfTrailingZeros_0f7a4_2 ?_
  refine lv_iload_n hE.1 hE.2.1 dJ6_numberOfTrailingZeros_0f7a4_3 rfl (lv_at hl 0 rfl) ?_
  refine lv_iconst (v := nI 1) hE.1 hE.2.1 dJ6_numberOfTrailingZeros_0f7a4_4 (by decide) ?_
  refine lv_isub hE.1 hE.2.1 dJ6_numberOfTrailingZeros_0f7a4_5 ?_
  refine lv_iand hE.1 hE.2.1 dJ6_numberOfTrailingZeros_0f7a4_6 ?_
  refine lv_istore_n (lv' := [(0, .int (((nI a) ^^^ (-1)) &&& ((nI a) - (nI 1))))]) hE.1 hE.2.1 dJ6_numberOfTrailingZeros_0f7a4_7 rfl hl (by decide) rfl (fun ls hl => ?_)
  have hl : lv_has ls 2 [(0, .int ((15 : Int32)))] := by rw [← hv]; exact hl
  refine lv_iload_n hE.1 hE.2.1 dJ6_numberOfTrailingZeros_0f7a4_8 rfl (lv_at hl 0 rfl) ?_
  refine lv_if_gt (tgt := 17) hE.1 hE.2.1 dJ6_numberOfTrailingZeros_0f7a4_9 (by decide) (fun c9 => ?_) (fun c9 => ?_)
  · refine lv_iconst (v := (1 : Int32)) hE.1 hE.2.1 dJ6_numberOfTrailingZeros_0f7a4_17 (by decide) ?_
    refine lv_istore_n (lv' := [(1, .int ((1 : Int32))), (0, .int ((15 : Int32)))]) hE.1 hE.2.1 dJ6_numberOfTrailingZeros_0f7a4_18 rfl hl (by decide) rfl (fun ls hl => ?_)
    refine lv_iload_n hE.1 hE.2.1 dJ6_numberOfTrailingZeros_0f7a4_19 rfl (lv_at hl 1 rfl) ?_
    refine lv_ldcw (v := 65536) hE.1 hE.2.1 hE.2.2.1 (hE.2.2.2.1 _ (b3 196 rfl rfl)) dJ6_numberOfTrailingZeros_0f7a4_20 ?_
    refine lv_icmp_le (tgt := 34) hE.1 hE.2.1 dJ6_numberOfTrailingZeros_0f7a4_23 (by decide) (fun c23 => ?_) (fun c23 => ?_)
    · refine lv_iload_n hE.1 hE.2.1 dJ6_numberOfTrailingZeros_0f7a4_34 rfl (lv_at hl 1 rfl) ?_
      refine lv_sipush (v := (256 : Int32)) hE.1 hE.2.1 dJ6_numberOfTrailingZeros_0f7a4_35 (by decide) ?_
      refine lv_icmp_le (tgt := 49) hE.1 hE.2.1 dJ6_numberOfTrailingZeros_0f7a4_38 (by decide) (fun c38 => ?_) (fun c38 => ?_)
      · refine lv_iload_n hE.1 hE.2.1 dJ6_numberOfTrailingZeros_0f7a4_49 rfl (lv_at hl 1 rfl) ?_
        refine lv_bipush (v := (16 : Int32)) hE.1 hE.2.1 dJ6_numberOfTrailingZeros_0f7a4_50 (by decide) ?_
        refine lv_icmp_le (tgt := 62) hE.1 hE.2.1 dJ6_numberOfTrailingZeros_0f7a4_52 (by decide) (fun c52 => ?_) (fun c52 => ?_)
        · refine lv_iload_n hE.1 hE.2.1 dJ6_numberOfTrailingZeros_0f7a4_62 rfl (lv_at hl 1 rfl) ?_
          refine lv_iconst (v := (4 : Int32)) hE.1 hE.2.1 dJ6_numberOfTrailingZeros_0f7a4_63 (by decide) ?_
          refine lv_icmp_le (tgt := 74) hE.1 hE.2.1 dJ6_numberOfTrailingZeros_0f7a4_64 (by decide) (fun c64 => ?_) (fun c64 => ?_)
          · exact absurd c64 (by decide)
          · refine lv_iinc (v := (3 : Int32)) (lv' := [(1, .int ((3 : Int32))), (0, .int ((15 : Int32)))]) hE.1 hE.2.1 dJ6_numberOfTrailingZeros_0f7a4_67 hl (k := 0) rfl (by decide) (by decide) rfl (fun ls hl => ?_)
            refine lv_iload_n hE.1 hE.2.1 dJ6_numberOfTrailingZeros_0f7a4_70 rfl (lv_at hl 1 rfl) ?_
            refine lv_iconst (v := (2 : Int32)) hE.1 hE.2.1 dJ6_numberOfTrailingZeros_0f7a4_71 (by decide) ?_
            refine lv_iushr (v := (((15 : Int32)).toUInt32 >>> (((2 : Int32)).toUInt32 &&& Int32.toUInt32 31)).toInt32) hE.1 hE.2.1 dJ6_numberOfTrailingZeros_0f7a4_72 rfl ?_
            refine rn_as (v' := (3 : Int32)) (by decide) ?_
            refine lv_istore_n (lv' := [(0, .int ((3 : Int32))), (1, .int ((3 : Int32)))]) hE.1 hE.2.1 dJ6_numberOfTrailingZeros_0f7a4_73 rfl hl (by decide) rfl (fun ls hl => ?_)
            refine lv_iload_n hE.1 hE.2.1 dJ6_numberOfTrailingZeros_0f7a4_74 rfl (lv_at hl 1 rfl) ?_
            refine lv_iload_n hE.1 hE.2.1 dJ6_numberOfTrailingZeros_0f7a4_75 rfl (lv_at hl 0 rfl) ?_
            refine lv_iconst (v := (1 : Int32)) hE.1 hE.2.1 dJ6_numberOfTrailingZeros_0f7a4_76 (by decide) ?_
            refine lv_iushr (v := (((3 : Int32)).toUInt32 >>> (((1 : Int32)).toUInt32 &&& Int32.toUInt32 31)).toInt32) hE.1 hE.2.1 dJ6_numberOfTrailingZeros_0f7a4_77 rfl ?_
            refine lv_iadd hE.1 hE.2.1 dJ6_numberOfTrailingZeros_0f7a4_78 ?_
            exact rg_iret hE hr rfl hlk hH ⟨rfl, rfl, rfl, by decide⟩ dJ6_numberOfTrailingZeros_0f7a4_79
        · exact absurd (by decide) c52
      · exact absurd (by decide) c38
    · exact absurd (by decide) c23
  · exact absurd (by decide) c9
set_option maxRecDepth 100000 in
set_option maxHeartbeats 4000000 in
theorem c_ntz_5 (l : Launch) (z : ZK) (G : GW) (iv : IV) (jv : JV) (a : Nat) (hv : (nI a ^^^ (-1)) &&& (nI a - nI 1) = 31) : cI l z yJ6_numberOfTrailingZeros_0f7a4 cJ6_numberOfTrailingZeros_0f7a4 2 (some .int) 0 0 0 0 [.int (nI a)] G iv jv (fun r' G' iv' jv' => G = G' ∧ iv = iv' ∧ jv = jv' ∧ r' = nI 5) := by
  intro sz
  refine rg_entry rfl (Nat.le_of_ble_eq_true rfl) ?_
  intro pq eq sq mq bq methq cq ls hE hr hlk hml hnm hl hsz hH
  have hl : lv_has ls 2 [(0, .int (nI a))] := hl
  refine lv_iload_n hE.1 hE.2.1 dJ6_numberOfTrailingZeros_0f7a4_0 rfl (lv_at hl 0 rfl) ?_
  refine lv_iconst (v := -1) hE.1 hE.2.1 dJ6_numberOfTrailingZeros_0f7a4_1 (by decide) ?_
  refine lv_ixor hE.1 hE.2.1 dJ6_numberOfTrailingZeros_0f7a4_2 ?_
  refine lv_iload_n hE.1 hE.2.1 dJ6_numberOfTrailingZeros_0f7a4_3 rfl (lv_at hl 0 rfl) ?_
  refine lv_iconst (v := nI 1) hE.1 hE.2.1 dJ6_numberOfTrailingZeros_0f7a4_4 (by decide) ?_
  refine lv_isub hE.1 hE.2.1 dJ6_numberOfTrailingZeros_0f7a4_5 ?_
  refine lv_iand hE.1 hE.2.1 dJ6_numberOfTrailingZeros_0f7a4_6 ?_
  refine lv_istore_n (lv' := [(0, .int (((nI a) ^^^ (-1)) &&& ((nI a) - (nI 1))))]) hE.1 hE.2.1 dJ6_numberOfTrailingZeros_0f7a4_7 rfl hl (by decide) rfl (fun ls hl => ?_)
  have hl : lv_has ls 2 [(0, .int ((31 : Int32)))] := by rw [← hv]; exact hl
  refine lv_iload_n hE.1 hE.2.1 dJ6_numberOfTrailingZeros_0f7a4_8 rfl (lv_at hl 0 rfl) ?_
  refine lv_if_gt (tgt := 17) hE.1 hE.2.1 dJ6_numberOfTrailingZeros_0f7a4_9 (by decide) (fun c9 => ?_) (fun c9 => ?_)
  · refine lv_iconst (v := (1 : Int32)) hE.1 hE.2.1 dJ6_numberOfTrailingZeros_0f7a4_17 (by decide) ?_
    refine lv_istore_n (lv' := [(1, .int ((1 : Int32))), (0, .int ((31 : Int32)))]) hE.1 hE.2.1 dJ6_numberOfTrailingZeros_0f7a4_18 rfl hl (by decide) rfl (fun ls hl => ?_)
    refine lv_iload_n hE.1 hE.2.1 dJ6_numberOfTrailingZeros_0f7a4_19 rfl (lv_at hl 1 rfl) ?_
    refine lv_ldcw (v := 65536) hE.1 hE.2.1 hE.2.2.1 (hE.2.2.2.1 _ (b3 196 rfl rfl)) dJ6_numberOfTrailingZeros_0f7a4_20 ?_
    refine lv_icmp_le (tgt := 34) hE.1 hE.2.1 dJ6_numberOfTrailingZeros_0f7a4_23 (by decide) (fun c23 => ?_) (fun c23 => ?_)
    · refine lv_iload_n hE.1 hE.2.1 dJ6_numberOfTrailingZeros_0f7a4_34 rfl (lv_at hl 1 rfl) ?_
      refine lv_sipush (v := (256 : Int32)) hE.1 hE.2.1 dJ6_numberOfTrailingZeros_0f7a4_35 (by decide) ?_
      refine lv_icmp_le (tgt := 49) hE.1 hE.2.1 dJ6_numberOfTrailingZeros_0f7a4_38 (by decide) (fun c38 => ?_) (fun c38 => ?_)
      · refine lv_iload_n hE.1 hE.2.1 dJ6_numberOfTrailingZeros_0f7a4_49 rfl (lv_at hl 1 rfl) ?_
        refine lv_bipush (v := (16 : Int32)) hE.1 hE.2.1 dJ6_numberOfTrailingZeros_0f7a4_50 (by decide) ?_
        refine lv_icmp_le (tgt := 62) hE.1 hE.2.1 dJ6_numberOfTrailingZeros_0f7a4_52 (by decide) (fun c52 => ?_) (fun c52 => ?_)
        · exact absurd c52 (by decide)
        · refine lv_iinc (v := (5 : Int32)) (lv' := [(1, .int ((5 : Int32))), (0, .int ((31 : Int32)))]) hE.1 hE.2.1 dJ6_numberOfTrailingZeros_0f7a4_55 hl (k := 0) rfl (by decide) (by decide) rfl (fun ls hl => ?_)
          refine lv_iload_n hE.1 hE.2.1 dJ6_numberOfTrailingZeros_0f7a4_58 rfl (lv_at hl 1 rfl) ?_
          refine lv_iconst (v := (4 : Int32)) hE.1 hE.2.1 dJ6_numberOfTrailingZeros_0f7a4_59 (by decide) ?_
          refine lv_iushr (v := (((31 : Int32)).toUInt32 >>> (((4 : Int32)).toUInt32 &&& Int32.toUInt32 31)).toInt32) hE.1 hE.2.1 dJ6_numberOfTrailingZeros_0f7a4_60 rfl ?_
          refine rn_as (v' := (1 : Int32)) (by decide) ?_
          refine lv_istore_n (lv' := [(0, .int ((1 : Int32))), (1, .int ((5 : Int32)))]) hE.1 hE.2.1 dJ6_numberOfTrailingZeros_0f7a4_61 rfl hl (by decide) rfl (fun ls hl => ?_)
          refine lv_iload_n hE.1 hE.2.1 dJ6_numberOfTrailingZeros_0f7a4_62 rfl (lv_at hl 0 rfl) ?_
          refine lv_iconst (v := (4 : Int32)) hE.1 hE.2.1 dJ6_numberOfTrailingZeros_0f7a4_63 (by decide) ?_
          refine lv_icmp_le (tgt := 74) hE.1 hE.2.1 dJ6_numberOfTrailingZeros_0f7a4_64 (by decide) (fun c64 => ?_) (fun c64 => ?_)
          · refine lv_iload_n hE.1 hE.2.1 dJ6_numberOfTrailingZeros_0f7a4_74 rfl (lv_at hl 1 rfl) ?_
            refine lv_iload_n hE.1 hE.2.1 dJ6_numberOfTrailingZeros_0f7a4_75 rfl (lv_at hl 0 rfl) ?_
            refine lv_iconst (v := (1 : Int32)) hE.1 hE.2.1 dJ6_numberOfTrailingZeros_0f7a4_76 (by decide) ?_
            refine lv_iushr (v := (((1 : Int32)).toUInt32 >>> (((1 : Int32)).toUInt32 &&& Int32.toUInt32 31)).toInt32) hE.1 hE.2.1 dJ6_numberOfTrailingZeros_0f7a4_77 rfl ?_
            refine lv_iadd hE.1 hE.2.1 dJ6_numberOfTrailingZeros_0f7a4_78 ?_
            exact rg_iret hE hr rfl hlk hH ⟨rfl, rfl, rfl, by decide⟩ dJ6_numberOfTrailingZeros_0f7a4_79
          · exact absurd (by decide) c64
      · exact absurd (by decide) c38
    · exact absurd (by decide) c23
  · exact absurd (by decide) c9
theorem ntz_k : ∀ a, a < 64 → ((nI a ^^^ (-1)) &&& (nI a - nI 1) = (-1) ∧ lst a = 32) ∨ ((nI a ^^^ (-1)) &&& (nI a - nI 1) = 0 ∧ lst a = 0) ∨ ((nI a ^^^ (-1)) &&& (nI a - nI 1) = 1 ∧ lst a = 1) ∨ ((nI a ^^^ (-1)) &&& (nI a - nI 1) = 3 ∧ lst a = 2) ∨ ((nI a ^^^ (-1)) &&& (nI a - nI 1) = 7 ∧ lst a = 3) ∨ ((nI a ^^^ (-1)) &&& (nI a - nI 1) = 15 ∧ lst a = 4) ∨ ((nI a ^^^ (-1)) &&& (nI a - nI 1) = 31 ∧ lst a = 5) := by decide +kernel
theorem c_ntz (l : Launch) (z : ZK) (G : GW) (iv : IV) (jv : JV) (a : Nat) (ha : a < 64) : cI l z yJ6_numberOfTrailingZeros_0f7a4 cJ6_numberOfTrailingZeros_0f7a4 2 (some .int) 0 0 0 0 [.int (nI a)] G iv jv (fun r' G' iv' jv' => G = G' ∧ iv = iv' ∧ jv = jv' ∧ r' = nI (lst a)) := by
  rcases ntz_k a ha with ⟨h, e⟩ | ⟨h, e⟩ | ⟨h, e⟩ | ⟨h, e⟩ | ⟨h, e⟩ | ⟨h, e⟩ | ⟨h, e⟩
  · rw [e]; exact c_ntz_32 l z G iv jv a h
  · rw [e]; exact c_ntz_0 l z G iv jv a h
  · rw [e]; exact c_ntz_1 l z G iv jv a h
  · rw [e]; exact c_ntz_2 l z G iv jv a h
  · rw [e]; exact c_ntz_3 l z G iv jv a h
  · rw [e]; exact c_ntz_4 l z G iv jv a h
  · rw [e]; exact c_ntz_5 l z G iv jv a h
set_option maxRecDepth 100000 in
set_option maxHeartbeats 4000000 in
theorem c_Tb_both (l : Launch) (z : ZK) (G : GW) (iv : IV) (jv : JV) (t b : Nat) (tab : Tab) (hk : tabOK tab) (hTb : isTb G t b (tm tab) (tC tab) (tR tab) (tT tab)) (ht : 3000 ≤ t) (hb : 1000 ≤ b) (hbt : b + 40 ≤ t) (hLy : LAY iv jv b tab) (ra rb : Nat) (hra : ra < tR tab) (hrb : rb < tR tab) : cI l z yX7_firstCaseOfBoth cX7_firstCaseOfBoth 8 (some .int) 1 23 0 0 [.ref (G.ad t), .int (nI ra), .int (nI rb)] G iv jv (fun r' G' iv' jv' => G = G' ∧ iv = iv' ∧ jv = jv' ∧ r' = oI (qBo tab ra rb)) := by
  intro sz
  refine rg_entry rfl (Nat.le_of_ble_eq_true rfl) ?_
  intro pq eq sq mq bq methq cq ls hE hr hlk hml hnm hl hsz hH
  have hl : lv_has ls 8 [(0, .ref (G.ad t)), (1, .int (nI ra)), (2, .int (nI rb))] := hl
  have hTb0 := hTb
  obtain ⟨⟨mt, kt⟩, hL, hCa, hA10, hA11, hA12, hA13, hA14, hA15, hA16, hA17, hTm, r0, r2, r3, r4, r5, r6, r8, r9, r11, r13, r14⟩ := hTb
  have l10 := hA10.2.2
  have l11 := hA11.2.2
  have l12 := hA12.2.2
  have l13 := hA13.2.2
  have l14 := hA14.2.2
  have l15 := hA15.2.2
  have l16 := hA16.2.2
  have l17 := hA17.2.2
  have hm5 := hk.2.1
  have hm1 := hk.1
  have hC4 := hk.2.2.2.1
  have hR40 := hk.2.2.2.2.2.2.1
  have hO6 := hk.2.2.2.2.2.1
  have hR0 := hLy.2.2.1
  have l32 : G.ln (b + 30 + 2) = 40 := hL.2.2.2.1.2.2.1.2.2
  have l5 : G.ln (b + 1) = 5 := hL.2.1.2.2
  obtain ⟨A, hA⟩ := hLy.mks hra
  obtain ⟨B, hB⟩ := hLy.mks hrb
  refine lv_iconst (v := nI 0) hE.1 hE.2.1 dX7_firstCaseOfBoth_0 (by decide) ?_
  refine lv_istore_n (lv' := [(3, .int (nI 0)), (0, .ref (G.ad t)), (1, .int (nI ra)), (2, .int (nI rb))]) hE.1 hE.2.1 dX7_firstCaseOfBoth_1 rfl hl (by decide) rfl (fun ls hl => ?_)
  refine lv_iconst (v := nI 0) hE.1 hE.2.1 dX7_firstCaseOfBoth_2 (by decide) ?_
  refine lv_istore (lv' := [(4, .int (nI 0)), (3, .int (nI 0)), (0, .ref (G.ad t)), (1, .int (nI ra)), (2, .int (nI rb))]) hE.1 hE.2.1 dX7_firstCaseOfBoth_3 hl (by decide) rfl (fun ls hl => ?_)
  refine rg_loop (σ := Nat) (nL := 8) (fun (i : Nat) => tm tab - i) (fun (i : Nat) => [(0, .ref (G.ad t)), (1, .int (nI ra)), (2, .int (nI rb)), (3, .int (nI (cbN tab (fun i => lst (A i &&& B i)) i))), (4, .int (nI i))]) (fun (i : Nat) => G) (fun (i : Nat) => iv) (fun (i : Nat) => jv) (fun (i : Nat) => i ≤ tm tab ∧ ∀ j, j < i → lst (A j &&& B j) < tf tab j) ?_ (0) ⟨Nat.zero_le _, fun j hj => absurd hj (Nat.not_lt_zero j)⟩ (lv_sub hl [2, 3, 4, 1, 0] rfl) hH
  rintro i H locs ls ⟨him, hal⟩ hl hH ih5
  try dsimp only at hl hH ih5
  refine lv_iload hE.1 hE.2.1 dX7_firstCaseOfBoth_5 (lv_at hl 4 rfl) ?_
  refine lv_aload_n hE.1 hE.2.1 dX7_firstCaseOfBoth_7 rfl (lv_at hl 0 rfl) ?_
  refine rg_getr hE hH cf_X7 fl_X7_9 rfl (mt) (kt) (v := b) (r0) dX7_firstCaseOfBoth_8 ?_
  refine rg_geti hE hH cf_X1 fl_X7_22 rfl (hL.1.1) (hL.1.2) (v := nI (tm tab)) (hLy.1.1) dX7_firstCaseOfBoth_11 ?_
  refine rn_icmp_ge (tgt := 91) hE dX7_firstCaseOfBoth_14 (by decide) (by omega) (by omega) (fun c14 => ?_) (fun c14 => ?_)
  · have hie : i = tm tab := by omega
    subst hie
    refine lv_iload_n hE.1 hE.2.1 dX7_firstCaseOfBoth_91 rfl (lv_at hl 3 rfl) ?_
    exact rg_iret hE hr rfl hlk hH ⟨rfl, rfl, rfl, by rw [show qBo tab ra rb = some (cbN tab (fun i => lst (A i &&& B i)) (tm tab)) from cb_some (fun i hi => by
      have hAi := hA i hi
      have hBi := hB i hi
      have h64 := and6 _ hAi.2.1 _ hBi.2.1
      have hfi := hk.2.2.1 i hi
      have hlt := hal i hi
      have hs := lst_lt _ h64 _ hfi.2 hlt
      have hs1 := hs.1
      rw [Nat.testBit_and, Bool.and_eq_true] at hs1
      exact ⟨hlt, by rw [← hAi.2.2 _ hlt]; exact hs1.1, by rw [← hBi.2.2 _ hlt]; exact hs1.2, fun u hu => by rw [← hAi.2.2 u (Nat.lt_trans hu hlt), ← hBi.2.2 u (Nat.lt_trans hu hlt), ← Nat.testBit_and]; exact hs.2 u hu⟩)]; rfl⟩ dX7_firstCaseOfBoth_92
  · have hAi := hA i (by omega)
    have hBi := hB i (by omega)
    have hfi := hk.2.2.1 i (by omega)
    have h64 := and6 _ hAi.2.1 _ hBi.2.1
    have hl32 := lst_le _ h64
    refine lv_aload_n hE.1 hE.2.1 dX7_firstCaseOfBoth_17 rfl (lv_at hl 0 rfl) ?_
    refine rg_getr hE hH cf_X7 fl_X7_9 rfl (mt) (kt) (v := b) (r0) dX7_firstCaseOfBoth_18 ?_
    refine rg_getr hE hH cf_X1 fl_X7_128 rfl (hL.1.1) (hL.1.2) (v := b + 1) (hL.2.2.2.2.1) dX7_firstCaseOfBoth_21 ?_
    refine lv_iload hE.1 hE.2.1 dX7_firstCaseOfBoth_24 (lv_at hl 4 rfl) ?_
    refine rg_aldr hE hH (hL.2.1.1) (hL.2.1.2.1) (by decide) (by decide) (by omega) (v := b + 10 + 2 * i) (hL.2.2.2.2.2.1 i (by omega)) dX7_firstCaseOfBoth_26 ?_
    refine rg_geti hE hH cf_X0 fl_X7_132 rfl ((hL.2.2.1 i (by omega)).1.1) ((hL.2.2.1 i (by omega)).1.2) (v := nI (tf tab i)) (hLy.sz (by omega)) dX7_firstCaseOfBoth_27 ?_
    refine lv_istore (lv' := [(5, .int (nI (tf tab i))), (0, .ref (G.ad t)), (1, .int (nI ra)), (2, .int (nI rb)), (3, .int (nI (cbN tab (fun i => lst (A i &&& B i)) i))), (4, .int (nI i))]) hE.1 hE.2.1 dX7_firstCaseOfBoth_30 hl (by decide) rfl (fun ls hl => ?_)
    refine lv_aload_n hE.1 hE.2.1 dX7_firstCaseOfBoth_32 rfl (lv_at hl 1 rfl) ?_
    refine rg_getr hE hH cf_X7 fl_X7_9 rfl (mt) (kt) (v := b) (r0) dX7_firstCaseOfBoth_33 ?_
    refine rg_getr hE hH cf_X1 fl_X7_43 rfl (hL.1.1) (hL.1.2) (v := b + 30) (hL.2.2.2.2.2.2.2) dX7_firstCaseOfBoth_36 ?_
    refine lv_iload_n hE.1 hE.2.1 dX7_firstCaseOfBoth_39 rfl (lv_at hl 2 rfl) ?_
    refine lv_iload hE.1 hE.2.1 dX7_firstCaseOfBoth_40 (lv_at hl 5 rfl) ?_
    refine rg_VI (As := [.int (nI ra), .int (nI i)]) (rest := []) hE hml hH mc_X7_135 (c_Ro_cell l z G iv jv (b + 30) hL.2.2.2.1 ra i (by omega) (by omega)) (hL.2.2.2.1.1.1) (hL.2.2.2.1.1.2) (by decide) rfl ⟨Nat.le_of_ble_eq_true rfl, Nat.le_of_ble_eq_true rfl⟩ rfl hl.1 (by simp [Value.category]) dX7_firstCaseOfBoth_42 ⟨Nat.le_of_ble_eq_true rfl, Nat.le_of_ble_eq_true rfl⟩ (fun r42 G42 iv42 jv42 H locs hp42 hH => ?_)
    obtain ⟨rfl, rfl, rfl, rfl⟩ := hp42
    refine rn_as (v' := nI (A i)) (hAi.1) ?_
    refine lv_aload_n hE.1 hE.2.1 dX7_firstCaseOfBoth_45 rfl (lv_at hl 1 rfl) ?_
    refine rg_getr hE hH cf_X7 fl_X7_9 rfl (mt) (kt) (v := b) (r0) dX7_firstCaseOfBoth_46 ?_
    refine rg_getr hE hH cf_X1 fl_X7_43 rfl (hL.1.1) (hL.1.2) (v := b + 30) (hL.2.2.2.2.2.2.2) dX7_firstCaseOfBoth_49 ?_
    refine lv_iload_n hE.1 hE.2.1 dX7_firstCaseOfBoth_52 rfl (lv_at hl 3 rfl) ?_
    refine lv_iload hE.1 hE.2.1 dX7_firstCaseOfBoth_53 (lv_at hl 5 rfl) ?_
    refine rg_VI (As := [.int (nI rb), .int (nI i)]) (rest := [.int (nI (A i))]) hE hml hH mc_X7_135 (c_Ro_cell l z G iv jv (b + 30) hL.2.2.2.1 rb i (by omega) (by omega)) (hL.2.2.2.1.1.1) (hL.2.2.2.1.1.2) (by decide) rfl ⟨Nat.le_of_ble_eq_true rfl, Nat.le_of_ble_eq_true rfl⟩ rfl hl.1 (by simp [Value.category]) dX7_firstCaseOfBoth_55 ⟨Nat.le_of_ble_eq_true rfl, Nat.le_of_ble_eq_true rfl⟩ (fun r55 G55 iv55 jv55 H locs hp55 hH => ?_)
    obtain ⟨rfl, rfl, rfl, rfl⟩ := hp55
    refine rn_as (v' := nI (B i)) (hBi.1) ?_
    refine lv_iand hE.1 hE.2.1 dX7_firstCaseOfBoth_58 ?_
    refine rn_as (v' := nI (A i &&& B i)) (nI_and6 _ hAi.2.1 _ hBi.2.1) ?_
    refine lv_istore (lv' := [(6, .int (nI (A i &&& B i))), (5, .int (nI (tf tab i))), (0, .ref (G.ad t)), (1, .int (nI ra)), (2, .int (nI rb)), (3, .int (nI (cbN tab (fun i => lst (A i &&& B i)) i))), (4, .int (nI i))]) hE.1 hE.2.1 dX7_firstCaseOfBoth_59 hl (by decide) rfl (fun ls hl => ?_)
    refine lv_iload hE.1 hE.2.1 dX7_firstCaseOfBoth_61 (lv_at hl 0 rfl) ?_
    refine rg_SI (As := [.int (nI (A i &&& B i))]) (rest := []) hE hml hH mc_X7_138 (c_ntz l z G iv jv (A i &&& B i) (h64)) rfl ⟨Nat.le_of_ble_eq_true rfl, Nat.le_of_ble_eq_true rfl⟩ rfl hl.1 (by simp [Value.category]) dX7_firstCaseOfBoth_63 ⟨Nat.le_of_ble_eq_true rfl, Nat.le_of_ble_eq_true rfl⟩ (fun r63 G63 iv63 jv63 H locs hp63 hH => ?_)
    obtain ⟨rfl, rfl, rfl, rfl⟩ := hp63
    refine lv_istore (lv' := [(7, .int (nI (lst (A i &&& B i)))), (6, .int (nI (A i &&& B i))), (5, .int (nI (tf tab i))), (0, .ref (G.ad t)), (1, .int (nI ra)), (2, .int (nI rb)), (3, .int (nI (cbN tab (fun i => lst (A i &&& B i)) i))), (4, .int (nI i))]) hE.1 hE.2.1 dX7_firstCaseOfBoth_66 hl (by decide) rfl (fun ls hl => ?_)
    refine lv_iload hE.1 hE.2.1 dX7_firstCaseOfBoth_68 (lv_at hl 0 rfl) ?_
    refine lv_iload hE.1 hE.2.1 dX7_firstCaseOfBoth_70 (lv_at hl 2 rfl) ?_
    refine rn_icmp_lt (tgt := 77) hE dX7_firstCaseOfBoth_72 (by decide) (by omega) (by omega) (fun c72 => ?_) (fun c72 => ?_)
    · refine lv_iload_n hE.1 hE.2.1 dX7_firstCaseOfBoth_77 rfl (lv_at hl 6 rfl) ?_
      refine lv_iload hE.1 hE.2.1 dX7_firstCaseOfBoth_78 (lv_at hl 2 rfl) ?_
      refine rn_imul hE dX7_firstCaseOfBoth_80 ?_
      refine lv_iload hE.1 hE.2.1 dX7_firstCaseOfBoth_81 (lv_at hl 0 rfl) ?_
      refine rn_iadd hE dX7_firstCaseOfBoth_83 ?_
      refine lv_istore_n (lv' := [(3, .int (nI ((cbN tab (fun i => lst (A i &&& B i)) i) * (tf tab i) + (lst (A i &&& B i))))), (7, .int (nI (lst (A i &&& B i)))), (6, .int (nI (A i &&& B i))), (5, .int (nI (tf tab i))), (0, .ref (G.ad t)), (1, .int (nI ra)), (2, .int (nI rb)), (4, .int (nI i))]) hE.1 hE.2.1 dX7_firstCaseOfBoth_84 rfl hl (by decide) rfl (fun ls hl => ?_)
      have hl : lv_has ls 8 [(3, .int (nI (cbN tab (fun i => lst (A i &&& B i)) (i + 1)))), (7, .int (nI (lst (A i &&& B i)))), (6, .int (nI (A i &&& B i))), (5, .int (nI (tf tab i))), (0, .ref (G.ad t)), (1, .int (nI ra)), (2, .int (nI rb)), (4, .int (nI i))] := hl
      refine lv_iinc (v := nI (i + 1)) (lv' := [(4, .int (nI (i + 1))), (3, .int (nI (cbN tab (fun i => lst (A i &&& B i)) (i + 1)))), (7, .int (nI (lst (A i &&& B i)))), (6, .int (nI (A i &&& B i))), (5, .int (nI (tf tab i))), (0, .ref (G.ad t)), (1, .int (nI ra)), (2, .int (nI rb))]) hE.1 hE.2.1 dX7_firstCaseOfBoth_85 hl (k := 7) rfl (nI_1 _) (by decide) rfl (fun ls hl => ?_)
      refine lv_goto (tgt := 5) hE.1 hE.2.1 dX7_firstCaseOfBoth_88 (by decide) ?_
      exact ih5 (i + 1) _ _ _ (by omega) ⟨by omega, fun j hj => by
        by_cases hji : j = i
        · subst hji; exact c72
        · exact hal j (by omega)⟩ (lv_sub hl [5, 6, 7, 1, 0] rfl) hH
    · refine lv_iconst (v := -1) hE.1 hE.2.1 dX7_firstCaseOfBoth_75 (by decide) ?_
      exact rg_iret hE hr rfl hlk hH ⟨rfl, rfl, rfl, by rw [show qBo tab ra rb = none from cb_none hk (show i < tm tab by omega) (fun u hu => by rw [← hAi.2.2 u hu, ← hBi.2.2 u hu, ← Nat.testBit_and]; exact lst_ge _ h64 _ hfi.2 (by omega) u hu)]; rfl⟩ dX7_firstCaseOfBoth_76
set_option maxRecDepth 100000 in
set_option maxHeartbeats 4000000 in
theorem c_Tb_quar (l : Launch) (z : ZK) (G : GW) (iv : IV) (jv : JV) (t b : Nat) (tab : Tab) (hk : tabOK tab) (hTb : isTb G t b (tm tab) (tC tab) (tR tab) (tT tab)) (ht : 3000 ≤ t) (hb : 1000 ≤ b) (hbt : b + 40 ≤ t) (hLy : LAY iv jv b tab) (h10 : iv t 10 = nI 0) : cV l z yX7_findQuarrels cX7_findQuarrels 4 none 2 50 0 0 [.ref (G.ad t)] G iv jv (fun G' iv' jv' => G = G' ∧ jv = jv' ∧ QLs iv' t (qL tab) ∧ Fr iv iv' (fun lb j => lb = t + 14 ∨ lb = t + 15 ∨ (lb = t ∧ j = 10))) := by
  intro sz
  refine rg_entry rfl (Nat.le_of_ble_eq_true rfl) ?_
  intro pq eq sq mq bq methq cq ls hE hr hlk hml hnm hl hsz hH
  have hl : lv_has ls 4 [(0, .ref (G.ad t))] := hl
  have hTb0 := hTb
  obtain ⟨⟨mt, kt⟩, hL, hCa, hA10, hA11, hA12, hA13, hA14, hA15, hA16, hA17, hTm, r0, r2, r3, r4, r5, r6, r8, r9, r11, r13, r14⟩ := hTb
  have l10 := hA10.2.2
  have l11 := hA11.2.2
  have l12 := hA12.2.2
  have l13 := hA13.2.2
  have l14 := hA14.2.2
  have l15 := hA15.2.2
  have l16 := hA16.2.2
  have l17 := hA17.2.2
  have hm5 := hk.2.1
  have hm1 := hk.1
  have hC4 := hk.2.2.2.1
  have hR40 := hk.2.2.2.2.2.2.1
  have hO6 := hk.2.2.2.2.2.1
  have hR0 := hLy.2.2.1
  have l32 : G.ln (b + 30 + 2) = 40 := hL.2.2.2.1.2.2.1.2.2
  refine lv_aload_n hE.1 hE.2.1 dX7_findQuarrels_0 rfl (lv_at hl 0 rfl) ?_
  refine rg_getr hE hH cf_X7 fl_X7_9 rfl (mt) (kt) (v := b) (r0) dX7_findQuarrels_1 ?_
  refine rg_getr hE hH cf_X1 fl_X7_43 rfl (hL.1.1) (hL.1.2) (v := b + 30) (hL.2.2.2.2.2.2.2) dX7_findQuarrels_4 ?_
  refine rg_getr hE hH cf_X6 fl_X7_115 rfl (hL.2.2.2.1.1.1) (hL.2.2.2.1.1.2) (v := b + 30 + 2) (hL.2.2.2.1.2.2.2.2) dX7_findQuarrels_7 ?_
  refine lv_astore_n (lv' := [(1, .ref (G.ad (b + 30 + 2))), (0, .ref (G.ad t))]) hE.1 hE.2.1 dX7_findQuarrels_10 rfl hl (by decide) rfl (fun ls hl => ?_)
  refine lv_iconst (v := nI 0) hE.1 hE.2.1 dX7_findQuarrels_11 (by decide) ?_
  refine lv_istore_n (lv' := [(2, .int (nI 0)), (1, .ref (G.ad (b + 30 + 2))), (0, .ref (G.ad t))]) hE.1 hE.2.1 dX7_findQuarrels_12 rfl hl (by decide) rfl (fun ls hl => ?_)
  refine rg_loop (σ := IV × Nat) (nL := 4) (fun (u : IV × Nat) => match u with | (iv2, a) => tR tab - a) (fun (u : IV × Nat) => match u with | (iv2, a) => [(0, .ref (G.ad t)), (1, .ref (G.ad (b + 30 + 2))), (2, .int (nI a))]) (fun (u : IV × Nat) => match u with | (iv2, a) => G) (fun (u : IV × Nat) => match u with | (iv2, a) => iv2) (fun (u : IV × Nat) => match u with | (iv2, a) => jv) (fun (u : IV × Nat) => match u with | (iv2, a) => a ≤ tR tab ∧ QLs iv2 t (qUp tab a) ∧ Fr iv iv2 (fun lb j => lb = t + 14 ∨ lb = t + 15 ∨ (lb = t ∧ j = 10))) ?_ ((iv, 0)) ⟨Nat.zero_le _, ⟨h10, fun k hk => absurd hk (Nat.not_lt_zero k)⟩, Fr.rf⟩ (lv_sub hl [2, 1, 0] rfl) hH
  rintro ⟨iv2, a⟩ H locs ls ⟨haR, hQ, hFr⟩ hl hH ih13
  try dsimp only at hl hH ih13
  try dsimp only at haR hQ hFr
  have hLy2 := hLy.fr hFr (fun lb j _ _ => by omega)
  refine lv_iload_n hE.1 hE.2.1 dX7_findQuarrels_13 rfl (lv_at hl 2 rfl) ?_
  refine lv_aload_n hE.1 hE.2.1 dX7_findQuarrels_14 rfl (lv_at hl 0 rfl) ?_
  refine rg_getr hE hH cf_X7 fl_X7_9 rfl (mt) (kt) (v := b) (r0) dX7_findQuarrels_15 ?_
  refine rg_getr hE hH cf_X1 fl_X7_43 rfl (hL.1.1) (hL.1.2) (v := b + 30) (hL.2.2.2.2.2.2.2) dX7_findQuarrels_18 ?_
  refine rg_geti hE hH cf_X6 fl_X7_47 rfl (hL.2.2.2.1.1.1) (hL.2.2.2.1.1.2) (v := nI (tR tab)) (hLy2.2.2.1) dX7_findQuarrels_21 ?_
  refine rn_icmp_ge (tgt := 106) hE dX7_findQuarrels_24 (by decide) (by omega) (by omega) (fun c24 => ?_) (fun c24 => ?_)
  · have hae : a = tR tab := by omega
    subst hae
    exact rg_vret hE hr hlk hH ⟨rfl, rfl, hQ, hFr⟩ dX7_findQuarrels_106
  · refine lv_iload_n hE.1 hE.2.1 dX7_findQuarrels_27 rfl (lv_at hl 2 rfl) ?_
    refine lv_iconst (v := nI 1) hE.1 hE.2.1 dX7_findQuarrels_28 (by decide) ?_
    refine rn_iadd hE dX7_findQuarrels_29 ?_
    refine lv_istore_n (lv' := [(3, .int (nI (a + 1))), (0, .ref (G.ad t)), (1, .ref (G.ad (b + 30 + 2))), (2, .int (nI a))]) hE.1 hE.2.1 dX7_findQuarrels_30 rfl hl (by decide) rfl (fun ls hl => ?_)
    refine rg_loop (σ := IV × Nat) (nL := 4) (fun (u : IV × Nat) => match u with | (iv3, bq2) => tR tab - bq2) (fun (u : IV × Nat) => match u with | (iv3, bq2) => [(0, .ref (G.ad t)), (1, .ref (G.ad (b + 30 + 2))), (2, .int (nI a)), (3, .int (nI bq2))]) (fun (u : IV × Nat) => match u with | (iv3, bq2) => G) (fun (u : IV × Nat) => match u with | (iv3, bq2) => iv3) (fun (u : IV × Nat) => match u with | (iv3, bq2) => jv) (fun (u : IV × Nat) => match u with | (iv3, bq2) => a < bq2 ∧ bq2 ≤ tR tab ∧ QLs iv3 t (qUp tab a ++ qRow tab a bq2) ∧ Fr iv iv3 (fun lb j => lb = t + 14 ∨ lb = t + 15 ∨ (lb = t ∧ j = 10))) ?_ ((iv2, a + 1)) ⟨Nat.lt_succ_self a, c24, by rw [qRow_0 _ (Nat.le_refl _), List.append_nil]; exact hQ, hFr⟩ (lv_sub hl [1, 2, 3, 0] rfl) hH
    rintro ⟨iv3, bq2⟩ H locs ls ⟨hab, hbR, hQ, hFr⟩ hl hH ih31
    try dsimp only at hl hH ih31
    try dsimp only at hab hbR hQ hFr
    have hLy3 := hLy.fr hFr (fun lb j _ _ => by omega)
    refine lv_iload_n hE.1 hE.2.1 dX7_findQuarrels_31 rfl (lv_at hl 3 rfl) ?_
    refine lv_aload_n hE.1 hE.2.1 dX7_findQuarrels_32 rfl (lv_at hl 0 rfl) ?_
    refine rg_getr hE hH cf_X7 fl_X7_9 rfl (mt) (kt) (v := b) (r0) dX7_findQuarrels_33 ?_
    refine rg_getr hE hH cf_X1 fl_X7_43 rfl (hL.1.1) (hL.1.2) (v := b + 30) (hL.2.2.2.2.2.2.2) dX7_findQuarrels_36 ?_
    refine rg_geti hE hH cf_X6 fl_X7_47 rfl (hL.2.2.2.1.1.1) (hL.2.2.2.1.1.2) (v := nI (tR tab)) (hLy3.2.2.1) dX7_findQuarrels_39 ?_
    refine rn_icmp_ge (tgt := 100) hE dX7_findQuarrels_42 (by decide) (by omega) (by omega) (fun c42 => ?_) (fun c42 => ?_)
    · have hbe : bq2 = tR tab := by omega
      subst hbe
      refine lv_iinc (v := nI (a + 1)) (lv' := [(2, .int (nI (a + 1))), (0, .ref (G.ad t)), (1, .ref (G.ad (b + 30 + 2))), (3, .int (nI (tR tab)))]) hE.1 hE.2.1 dX7_findQuarrels_100 hl (k := 2) rfl (nI_1 _) (by decide) rfl (fun ls hl => ?_)
      refine lv_goto (tgt := 13) hE.1 hE.2.1 dX7_findQuarrels_103 (by decide) ?_
      exact ih13 (iv3, a + 1) _ _ _ (show tR tab - (a + 1) < tR tab - a by omega) ⟨by show a + 1 ≤ tR tab; omega, by rw [qUp]; exact hQ, hFr⟩ (lv_sub hl [1, 2, 0] rfl) hH
    · have hqr := q_room hk hab c42
      have hva := (hk.2.2.2.2.2.2.2 a (by omega)).2
      have hvb := (hk.2.2.2.2.2.2.2 bq2 (by omega)).2
      refine lv_aload_n hE.1 hE.2.1 dX7_findQuarrels_45 rfl (lv_at hl 1 rfl) ?_
      refine lv_iload_n hE.1 hE.2.1 dX7_findQuarrels_46 rfl (lv_at hl 2 rfl) ?_
      refine rg_iald hE hH (hL.2.2.2.1.2.2.1.1) (hL.2.2.2.1.2.2.1.2.1) (by omega) (v := nI (tvv tab a)) ((hLy3.2.2.2.2 a (show a < tR tab by omega)).2) dX7_findQuarrels_47 ?_
      refine lv_aload_n hE.1 hE.2.1 dX7_findQuarrels_48 rfl (lv_at hl 1 rfl) ?_
      refine lv_iload_n hE.1 hE.2.1 dX7_findQuarrels_49 rfl (lv_at hl 3 rfl) ?_
      refine rg_iald hE hH (hL.2.2.2.1.2.2.1.1) (hL.2.2.2.1.2.2.1.2.1) (by omega) (v := nI (tvv tab bq2)) ((hLy3.2.2.2.2 bq2 (show bq2 < tR tab by omega)).2) dX7_findQuarrels_50 ?_
      refine rn_icmp_eq (tgt := 94) hE dX7_findQuarrels_51 (by decide) (by omega) (by omega) (fun c51 => ?_) (fun c51 => ?_)
      · refine lv_iinc (v := nI (bq2 + 1)) (lv' := [(3, .int (nI (bq2 + 1))), (0, .ref (G.ad t)), (1, .ref (G.ad (b + 30 + 2))), (2, .int (nI a))]) hE.1 hE.2.1 dX7_findQuarrels_94 hl (k := 3) rfl (nI_1 _) (by decide) rfl (fun ls hl => ?_)
        refine lv_goto (tgt := 31) hE.1 hE.2.1 dX7_findQuarrels_97 (by decide) ?_
        exact ih31 (iv3, bq2 + 1) _ _ _ (show tR tab - (bq2 + 1) < tR tab - bq2 by omega) ⟨by show a < bq2 + 1; omega, by show bq2 + 1 ≤ tR tab; omega, by rw [qRow_n hab (by rw [qAt, if_pos c51])]; exact hQ, hFr⟩ (lv_sub hl [1, 2, 3, 0] rfl) hH
      · refine lv_aload_n hE.1 hE.2.1 dX7_findQuarrels_54 rfl (lv_at hl 0 rfl) ?_
        refine lv_iload_n hE.1 hE.2.1 dX7_findQuarrels_55 rfl (lv_at hl 2 rfl) ?_
        refine lv_iload_n hE.1 hE.2.1 dX7_findQuarrels_56 rfl (lv_at hl 3 rfl) ?_
        refine rg_VI (As := [.int (nI a), .int (nI bq2)]) (rest := []) hE hml hH mc_X7_122 (c_Tb_both l z G iv3 jv t b tab hk hTb0 ht hb hbt hLy3 a bq2 (by omega) (by omega)) (mt) (kt) (by decide) rfl ⟨Nat.le_of_ble_eq_true rfl, Nat.le_of_ble_eq_true rfl⟩ rfl hl.1 (by simp [Value.category]) dX7_findQuarrels_57 ⟨Nat.le_of_ble_eq_true rfl, Nat.le_of_ble_eq_true rfl⟩ (fun r57 G57 iv57 jv57 H locs hp57 hH => ?_)
        obtain ⟨rfl, rfl, rfl, rfl⟩ := hp57
        refine lv_iconst (v := -1) hE.1 hE.2.1 dX7_findQuarrels_60 (by decide) ?_
        refine lv_icmp_eq (tgt := 94) hE.1 hE.2.1 dX7_findQuarrels_61 (by decide) (fun c61 => ?_) (fun c61 => ?_)
        · rw [oI_m1 (fun k hk2 => by have := qBo_lt hk2; omega)] at c61
          refine lv_iinc (v := nI (bq2 + 1)) (lv' := [(3, .int (nI (bq2 + 1))), (0, .ref (G.ad t)), (1, .ref (G.ad (b + 30 + 2))), (2, .int (nI a))]) hE.1 hE.2.1 dX7_findQuarrels_94 hl (k := 3) rfl (nI_1 _) (by decide) rfl (fun ls hl => ?_)
          refine lv_goto (tgt := 31) hE.1 hE.2.1 dX7_findQuarrels_97 (by decide) ?_
          exact ih31 (iv3, bq2 + 1) _ _ _ (show tR tab - (bq2 + 1) < tR tab - bq2 by omega) ⟨by show a < bq2 + 1; omega, by show bq2 + 1 ≤ tR tab; omega, by rw [qRow_n hab ((qAt_bo c51).trans c61)]; exact hQ, hFr⟩ (lv_sub hl [1, 2, 3, 0] rfl) hH
        · obtain ⟨c, hc⟩ := oI_som c61
          refine lv_aload_n hE.1 hE.2.1 dX7_findQuarrels_64 rfl (lv_at hl 0 rfl) ?_
          refine rg_getr hE hH cf_X7 fl_X7_52 rfl (mt) (kt) (v := t + 14) (r8) dX7_findQuarrels_65 ?_
          refine lv_aload_n hE.1 hE.2.1 dX7_findQuarrels_68 rfl (lv_at hl 0 rfl) ?_
          refine rg_geti hE hH cf_X7 fl_X7_125 rfl (mt) (kt) (v := nI ((qUp tab a ++ qRow tab a bq2).length)) (hQ.1) dX7_findQuarrels_69 ?_
          refine lv_iload_n hE.1 hE.2.1 dX7_findQuarrels_72 rfl (lv_at hl 2 rfl) ?_
          refine rg_iast hE hH (hA14.1) (hA14.2.1) (by omega) (v := nI a) dX7_findQuarrels_73 (fun H locs hH => ?_)
          refine lv_aload_n hE.1 hE.2.1 dX7_findQuarrels_74 rfl (lv_at hl 0 rfl) ?_
          refine rg_getr hE hH cf_X7 fl_X7_55 rfl (mt) (kt) (v := t + 15) (r9) dX7_findQuarrels_75 ?_
          refine lv_aload_n hE.1 hE.2.1 dX7_findQuarrels_78 rfl (lv_at hl 0 rfl) ?_
          refine rg_geti hE hH cf_X7 fl_X7_125 rfl (mt) (kt) (v := nI ((qUp tab a ++ qRow tab a bq2).length)) ((by rw [up2_l (by omega)]; exact hQ.1)) dX7_findQuarrels_79 ?_
          refine lv_iload_n hE.1 hE.2.1 dX7_findQuarrels_82 rfl (lv_at hl 3 rfl) ?_
          refine rg_iast hE hH (hA15.1) (hA15.2.1) (by omega) (v := nI bq2) dX7_findQuarrels_83 (fun H locs hH => ?_)
          refine lv_aload_n hE.1 hE.2.1 dX7_findQuarrels_84 rfl (lv_at hl 0 rfl) ?_
          refine lv_dup hE.1 hE.2.1 dX7_findQuarrels_85 rfl ?_
          refine rg_geti hE hH cf_X7 fl_X7_125 rfl (mt) (kt) (v := nI ((qUp tab a ++ qRow tab a bq2).length)) ((by rw [up2_l (by omega), up2_l (by omega)]; exact hQ.1)) dX7_findQuarrels_86 ?_
          refine lv_iconst (v := nI 1) hE.1 hE.2.1 dX7_findQuarrels_89 (by decide) ?_
          refine rn_iadd hE dX7_findQuarrels_90 ?_
          refine rg_puti hE hH cf_X7 fl_X7_125 rfl fn_X7_10 (mt) (kt) (v := nI ((qUp tab a ++ qRow tab a bq2).length + 1)) dX7_findQuarrels_91 (fun H locs hH => ?_)
          have hQ4 : QLs (up2 (up2 (up2 iv3 (t + 14) ((qUp tab a ++ qRow tab a bq2).length) (nI a)) (t + 15) ((qUp tab a ++ qRow tab a bq2).length) (nI bq2)) t 10 (nI ((qUp tab a ++ qRow tab a bq2).length + 1))) t (qUp tab a ++ qRow tab a (bq2 + 1)) := by
            rw [qRow_s hab ((qAt_bo c51).trans hc), ← List.append_assoc]
            exact hQ.add a bq2 c
          have hFr4 : Fr iv (up2 (up2 (up2 iv3 (t + 14) ((qUp tab a ++ qRow tab a bq2).length) (nI a)) (t + 15) ((qUp tab a ++ qRow tab a bq2).length) (nI bq2)) t 10 (nI ((qUp tab a ++ qRow tab a bq2).length + 1))) (fun lb j => lb = t + 14 ∨ lb = t + 15 ∨ (lb = t ∧ j = 10)) := Fr.up (Fr.up (Fr.up hFr (Or.inl rfl)) (Or.inr (Or.inl rfl))) (Or.inr (Or.inr ⟨rfl, rfl⟩))
          refine lv_iinc (v := nI (bq2 + 1)) (lv' := [(3, .int (nI (bq2 + 1))), (0, .ref (G.ad t)), (1, .ref (G.ad (b + 30 + 2))), (2, .int (nI a))]) hE.1 hE.2.1 dX7_findQuarrels_94 hl (k := 3) rfl (nI_1 _) (by decide) rfl (fun ls hl => ?_)
          refine lv_goto (tgt := 31) hE.1 hE.2.1 dX7_findQuarrels_97 (by decide) ?_
          exact ih31 (up2 (up2 (up2 iv3 (t + 14) ((qUp tab a ++ qRow tab a bq2).length) (nI a)) (t + 15) ((qUp tab a ++ qRow tab a bq2).length) (nI bq2)) t 10 (nI ((qUp tab a ++ qRow tab a bq2).length + 1)), bq2 + 1) _ _ _ (show tR tab - (bq2 + 1) < tR tab - bq2 by omega) ⟨by show a < bq2 + 1; omega, by show bq2 + 1 ≤ tR tab; omega, hQ4, hFr4⟩ (lv_sub hl [1, 2, 3, 0] rfl) hH
set_option maxRecDepth 100000 in
set_option maxHeartbeats 4000000 in
theorem c_Tb_idle (l : Launch) (z : ZK) (G : GW) (iv : IV) (jv : JV) (t b : Nat) (tab : Tab) (hk : tabOK tab) (hTb : isTb G t b (tm tab) (tC tab) (tR tab) (tT tab)) (ht : 3000 ≤ t) (hb : 1000 ≤ b) (hbt : b + 40 ≤ t) (hLy : LAY iv jv b tab) (h1 : iv t 1 = nI (tC tab)) (hCV : CVl iv t tab) (h12 : iv t 12 = nI 0) (hdn : ∀ d, d < tC tab → iv (t + 10) d = oI (ans tab d) ∧ iv (t + 11) d = oI (frow tab d)) : cV l z yX7_findIdleRows cX7_findIdleRows 4 none 3 71 0 0 [.ref (G.ad t)] G iv jv (fun G' iv' jv' => G = G' ∧ jv = jv' ∧ (∀ k, k < tR tab → iv' (t + 16) k = bI (idl tab k)) ∧ iv' t 12 = nI (cntN (fun r => idl tab r) (tR tab)) ∧ Fr iv iv' (fun lb j => lb = t + 16 ∨ (lb = t ∧ j = 12))) := by
  intro sz
  refine rg_entry rfl (Nat.le_of_ble_eq_true rfl) ?_
  intro pq eq sq mq bq methq cq ls hE hr hlk hml hnm hl hsz hH
  have hl : lv_has ls 4 [(0, .ref (G.ad t))] := hl
  have hTb0 := hTb
  obtain ⟨⟨mt, kt⟩, hL, hCa, hA10, hA11, hA12, hA13, hA14, hA15, hA16, hA17, hTm, r0, r2, r3, r4, r5, r6, r8, r9, r11, r13, r14⟩ := hTb
  have l10 := hA10.2.2
  have l11 := hA11.2.2
  have l12 := hA12.2.2
  have l13 := hA13.2.2
  have l14 := hA14.2.2
  have l15 := hA15.2.2
  have l16 := hA16.2.2
  have l17 := hA17.2.2
  have hm5 := hk.2.1
  have hm1 := hk.1
  have hC4 := hk.2.2.2.1
  have hR40 := hk.2.2.2.2.2.2.1
  have hO6 := hk.2.2.2.2.2.1
  have hR0 := hLy.2.2.1
  have l32 : G.ln (b + 30 + 2) = 40 := hL.2.2.2.1.2.2.1.2.2
  refine lv_iconst (v := nI 0) hE.1 hE.2.1 dX7_findIdleRows_0 (by decide) ?_
  refine lv_istore_n (lv' := [(1, .int (nI 0)), (0, .ref (G.ad t))]) hE.1 hE.2.1 dX7_findIdleRows_1 rfl hl (by decide) rfl (fun ls hl => ?_)
  refine rg_loop (σ := IV × Nat) (nL := 4) (fun (u : IV × Nat) => match u with | (iv2, r) => tR tab - r) (fun (u : IV × Nat) => match u with | (iv2, r) => [(0, .ref (G.ad t)), (1, .int (nI r))]) (fun (u : IV × Nat) => match u with | (iv2, r) => G) (fun (u : IV × Nat) => match u with | (iv2, r) => iv2) (fun (u : IV × Nat) => match u with | (iv2, r) => jv) (fun (u : IV × Nat) => match u with | (iv2, r) => r ≤ tR tab ∧ (∀ k, k < r → iv2 (t + 16) k = bI true) ∧ Fr iv iv2 (fun lb _ => lb = t + 16)) ?_ ((iv, 0)) ⟨Nat.zero_le _, fun k hk => absurd hk (Nat.not_lt_zero k), Fr.rf⟩ (lv_sub hl [1, 0] rfl) hH
  rintro ⟨iv2, r⟩ H locs ls ⟨hrR, hid, hFr⟩ hl hH ih2
  try dsimp only at hl hH ih2
  try dsimp only at hrR hid hFr
  refine lv_iload_n hE.1 hE.2.1 dX7_findIdleRows_2 rfl (lv_at hl 1 rfl) ?_
  refine lv_aload_n hE.1 hE.2.1 dX7_findIdleRows_3 rfl (lv_at hl 0 rfl) ?_
  refine rg_getr hE hH cf_X7 fl_X7_58 rfl (mt) (kt) (v := t + 16) (r11) dX7_findIdleRows_4 ?_
  refine rg_alen hE hH (hA16.1) (hA16.2.1) (by decide) (by decide) dX7_findIdleRows_7 ?_
  rw [l16]
  refine rn_icmp_ge (tgt := 24) hE dX7_findIdleRows_8 (by decide) (by omega) (by omega) (fun c8 => ?_) (fun c8 => ?_)
  · have hre : r = tR tab := by omega
    subst hre
    refine lv_iconst (v := nI 0) hE.1 hE.2.1 dX7_findIdleRows_24 (by decide) ?_
    refine lv_istore_n (lv' := [(1, .int (nI 0)), (0, .ref (G.ad t))]) hE.1 hE.2.1 dX7_findIdleRows_25 rfl hl (by decide) rfl (fun ls hl => ?_)
    refine rg_loop (σ := IV × Nat) (nL := 4) (fun (u : IV × Nat) => match u with | (iv3, c) => tC tab - c) (fun (u : IV × Nat) => match u with | (iv3, c) => [(0, .ref (G.ad t)), (1, .int (nI c))]) (fun (u : IV × Nat) => match u with | (iv3, c) => G) (fun (u : IV × Nat) => match u with | (iv3, c) => iv3) (fun (u : IV × Nat) => match u with | (iv3, c) => jv) (fun (u : IV × Nat) => match u with | (iv3, c) => c ≤ tC tab ∧ (∀ k, k < tR tab → iv3 (t + 16) k = bI (idlI tab k c)) ∧ iv3 t 12 = nI 0 ∧ Fr iv iv3 (fun lb j => lb = t + 16 ∨ (lb = t ∧ j = 12))) ?_ ((iv2, 0)) ⟨Nat.zero_le _, fun k hk => by rw [idlI_0]; exact hid k hk, (hFr _ _ (by omega)).trans h12, hFr.mono (fun lb j h => Or.inl h)⟩ (lv_sub hl [1, 0] rfl) hH
    rintro ⟨iv3, c⟩ H locs ls ⟨hcC, hid, h12, hFr⟩ hl hH ih26
    try dsimp only at hl hH ih26
    try dsimp only at hcC hid h12 hFr
    have hLy3 := hLy.fr hFr (fun lb j _ _ => by omega)
    have hCV3 := hCV.fr hFr (fun i hi c => by omega)
    refine lv_iload_n hE.1 hE.2.1 dX7_findIdleRows_26 rfl (lv_at hl 1 rfl) ?_
    refine lv_aload_n hE.1 hE.2.1 dX7_findIdleRows_27 rfl (lv_at hl 0 rfl) ?_
    refine rg_geti hE hH cf_X7 fl_X7_21 rfl (mt) (kt) (v := nI (tC tab)) ((hFr _ _ (by omega)).trans h1) dX7_findIdleRows_28 ?_
    refine rn_icmp_ge (tgt := 117) hE dX7_findIdleRows_31 (by decide) (by omega) (by omega) (fun c31 => ?_) (fun c31 => ?_)
    · have hce : c = tC tab := by omega
      subst hce
      refine lv_iconst (v := nI 0) hE.1 hE.2.1 dX7_findIdleRows_117 (by decide) ?_
      refine lv_istore_n (lv' := [(1, .int (nI 0)), (0, .ref (G.ad t))]) hE.1 hE.2.1 dX7_findIdleRows_118 rfl hl (by decide) rfl (fun ls hl => ?_)
      refine rg_loop (σ := IV × Nat) (nL := 4) (fun (u : IV × Nat) => match u with | (iv4, r) => tR tab - r) (fun (u : IV × Nat) => match u with | (iv4, r) => [(0, .ref (G.ad t)), (1, .int (nI r))]) (fun (u : IV × Nat) => match u with | (iv4, r) => G) (fun (u : IV × Nat) => match u with | (iv4, r) => iv4) (fun (u : IV × Nat) => match u with | (iv4, r) => jv) (fun (u : IV × Nat) => match u with | (iv4, r) => r ≤ tR tab ∧ (∀ k, k < tR tab → iv4 (t + 16) k = bI (idl tab k)) ∧ iv4 t 12 = nI (cntN (fun r => idl tab r) r) ∧ Fr iv iv4 (fun lb j => lb = t + 16 ∨ (lb = t ∧ j = 12))) ?_ ((iv3, 0)) ⟨Nat.zero_le _, hid, h12, hFr⟩ (lv_sub hl [1, 0] rfl) hH
      rintro ⟨iv4, r⟩ H locs ls ⟨hrR, hid, h12, hFr⟩ hl hH ih119
      try dsimp only at hl hH ih119
      try dsimp only at hrR hid h12 hFr
      have hle := cntN_le (p := fun r => idl tab r) r
      refine lv_iload_n hE.1 hE.2.1 dX7_findIdleRows_119 rfl (lv_at hl 1 rfl) ?_
      refine lv_aload_n hE.1 hE.2.1 dX7_findIdleRows_120 rfl (lv_at hl 0 rfl) ?_
      refine rg_getr hE hH cf_X7 fl_X7_58 rfl (mt) (kt) (v := t + 16) (r11) dX7_findIdleRows_121 ?_
      refine rg_alen hE hH (hA16.1) (hA16.2.1) (by decide) (by decide) dX7_findIdleRows_124 ?_
      rw [l16]
      refine rn_icmp_ge (tgt := 153) hE dX7_findIdleRows_125 (by decide) (by omega) (by omega) (fun c125 => ?_) (fun c125 => ?_)
      · have hre : r = tR tab := by omega
        subst hre
        exact rg_vret hE hr hlk hH ⟨rfl, rfl, hid, h12, hFr⟩ dX7_findIdleRows_153
      · refine lv_aload_n hE.1 hE.2.1 dX7_findIdleRows_128 rfl (lv_at hl 0 rfl) ?_
        refine rg_getr hE hH cf_X7 fl_X7_58 rfl (mt) (kt) (v := t + 16) (r11) dX7_findIdleRows_129 ?_
        refine lv_iload_n hE.1 hE.2.1 dX7_findIdleRows_132 rfl (lv_at hl 1 rfl) ?_
        refine rg_zald hE hH (hA16.1) (hA16.2.1) (by omega) (v := bI (idl tab r)) (hid r (by omega)) dX7_findIdleRows_133 ?_
        refine rn_ifb_eq (tgt := 147) hE dX7_findIdleRows_134 (by decide) (fun c134 => ?_) (fun c134 => ?_)
        · refine lv_iinc (v := nI (r + 1)) (lv' := [(1, .int (nI (r + 1))), (0, .ref (G.ad t))]) hE.1 hE.2.1 dX7_findIdleRows_147 hl (k := 1) rfl (nI_1 _) (by decide) rfl (fun ls hl => ?_)
          refine lv_goto (tgt := 119) hE.1 hE.2.1 dX7_findIdleRows_150 (by decide) ?_
          exact ih119 (iv4, r + 1) _ _ _ (show tR tab - (r + 1) < tR tab - r by omega) ⟨by show r + 1 ≤ tR tab; omega, hid, by rw [cntN, if_neg (by rw [c134]; decide)]; exact h12, hFr⟩ (lv_sub hl [1, 0] rfl) hH
        · refine lv_aload_n hE.1 hE.2.1 dX7_findIdleRows_137 rfl (lv_at hl 0 rfl) ?_
          refine lv_dup hE.1 hE.2.1 dX7_findIdleRows_138 rfl ?_
          refine rg_geti hE hH cf_X7 fl_X7_144 rfl (mt) (kt) (v := nI (cntN (fun r => idl tab r) r)) (h12) dX7_findIdleRows_139 ?_
          refine lv_iconst (v := nI 1) hE.1 hE.2.1 dX7_findIdleRows_142 (by decide) ?_
          refine rn_iadd hE dX7_findIdleRows_143 ?_
          refine rg_puti hE hH cf_X7 fl_X7_144 rfl fn_X7_12 (mt) (kt) (v := nI (cntN (fun r => idl tab r) r + 1)) dX7_findIdleRows_144 (fun H locs hH => ?_)
          refine lv_iinc (v := nI (r + 1)) (lv' := [(1, .int (nI (r + 1))), (0, .ref (G.ad t))]) hE.1 hE.2.1 dX7_findIdleRows_147 hl (k := 1) rfl (nI_1 _) (by decide) rfl (fun ls hl => ?_)
          refine lv_goto (tgt := 119) hE.1 hE.2.1 dX7_findIdleRows_150 (by decide) ?_
          exact ih119 (up2 iv4 t 12 (nI (cntN (fun r => idl tab r) r + 1)), r + 1) _ _ _ (show tR tab - (r + 1) < tR tab - r by omega) ⟨by show r + 1 ≤ tR tab; omega, fun k hk => by dsimp only; rw [up2_l (by omega)]; exact hid k hk, by dsimp only; rw [cntN, if_pos c134]; exact up2_s, Fr.up hFr (Or.inr ⟨rfl, rfl⟩)⟩ (lv_sub hl [1, 0] rfl) hH
    · refine lv_aload_n hE.1 hE.2.1 dX7_findIdleRows_34 rfl (lv_at hl 0 rfl) ?_
      refine rg_getr hE hH cf_X7 fl_X7_34 rfl (mt) (kt) (v := t + 11) (r4) dX7_findIdleRows_35 ?_
      refine lv_iload_n hE.1 hE.2.1 dX7_findIdleRows_38 rfl (lv_at hl 1 rfl) ?_
      refine rg_iald hE hH (hA11.1) (hA11.2.1) (by omega) (v := oI (frow tab c)) ((hFr _ _ (by omega)).trans (hdn c (by omega)).2) dX7_findIdleRows_39 ?_
      refine lv_istore_n (lv' := [(2, .int (oI (frow tab c))), (0, .ref (G.ad t)), (1, .int (nI c))]) hE.1 hE.2.1 dX7_findIdleRows_40 rfl hl (by decide) rfl (fun ls hl => ?_)
      refine lv_iload_n hE.1 hE.2.1 dX7_findIdleRows_41 rfl (lv_at hl 0 rfl) ?_
      refine lv_iconst (v := -1) hE.1 hE.2.1 dX7_findIdleRows_42 (by decide) ?_
      refine lv_icmp_eq (tgt := 111) hE.1 hE.2.1 dX7_findIdleRows_43 (by decide) (fun c43 => ?_) (fun c43 => ?_)
      · rw [oI_m1 (fun k hk2 => by have := frow_lt hk2; omega)] at c43
        refine lv_iinc (v := nI (c + 1)) (lv' := [(1, .int (nI (c + 1))), (2, .int (oI (frow tab c))), (0, .ref (G.ad t))]) hE.1 hE.2.1 dX7_findIdleRows_111 hl (k := 2) rfl (nI_1 _) (by decide) rfl (fun ls hl => ?_)
        refine lv_goto (tgt := 26) hE.1 hE.2.1 dX7_findIdleRows_114 (by decide) ?_
        exact ih26 (iv3, c + 1) _ _ _ (show tC tab - (c + 1) < tC tab - c by omega) ⟨by show c + 1 ≤ tC tab; omega, fun k hk => by rw [idlI_n (by rw [c43]; simp)]; exact hid k hk, h12, hFr⟩ (lv_sub hl [2, 0] rfl) hH
      · obtain ⟨f, hf⟩ := oI_som c43
        have hfR := frow_lt hf
        have htv := (hk.2.2.2.2.2.2.2 f hfR).2
        have hl : lv_has ls 4 [(2, .int (nI f)), (0, .ref (G.ad t)), (1, .int (nI c))] := by rw [hf] at hl; exact hl
        refine lv_aload_n hE.1 hE.2.1 dX7_findIdleRows_46 rfl (lv_at hl 1 rfl) ?_
        refine rg_getr hE hH cf_X7 fl_X7_58 rfl (mt) (kt) (v := t + 16) (r11) dX7_findIdleRows_47 ?_
        refine lv_iload_n hE.1 hE.2.1 dX7_findIdleRows_50 rfl (lv_at hl 0 rfl) ?_
        refine rg_zald hE hH (hA16.1) (hA16.2.1) (by omega) (v := bI (idlI tab f c)) (hid f hfR) dX7_findIdleRows_51 ?_
        refine rn_ifb_eq (tgt := 111) hE dX7_findIdleRows_52 (by decide) (fun c52 => ?_) (fun c52 => ?_)
        · refine lv_iinc (v := nI (c + 1)) (lv' := [(1, .int (nI (c + 1))), (2, .int (nI f)), (0, .ref (G.ad t))]) hE.1 hE.2.1 dX7_findIdleRows_111 hl (k := 2) rfl (nI_1 _) (by decide) rfl (fun ls hl => ?_)
          refine lv_goto (tgt := 26) hE.1 hE.2.1 dX7_findIdleRows_114 (by decide) ?_
          exact ih26 (iv3, c + 1) _ _ _ (show tC tab - (c + 1) < tC tab - c by omega) ⟨by show c + 1 ≤ tC tab; omega, fun k hk => by
            by_cases hkf : k = f
            · subst hkf; rw [idlI_s hf, c52, Bool.false_and, ← c52]; exact hid k hk
            · rw [idlI_n (by rw [hf]; simp; omega)]; exact hid k hk, h12, hFr⟩ (lv_sub hl [2, 0] rfl) hH
        · refine lv_aload_n hE.1 hE.2.1 dX7_findIdleRows_55 rfl (lv_at hl 1 rfl) ?_
          refine rg_getr hE hH cf_X7 fl_X7_9 rfl (mt) (kt) (v := b) (r0) dX7_findIdleRows_56 ?_
          refine rg_getr hE hH cf_X1 fl_X7_43 rfl (hL.1.1) (hL.1.2) (v := b + 30) (hL.2.2.2.2.2.2.2) dX7_findIdleRows_59 ?_
          refine lv_iload_n hE.1 hE.2.1 dX7_findIdleRows_62 rfl (lv_at hl 0 rfl) ?_
          refine lv_iconst (v := nI 1) hE.1 hE.2.1 dX7_findIdleRows_63 (by decide) ?_
          refine rn_iadd hE dX7_findIdleRows_64 ?_
          refine lv_aload_n hE.1 hE.2.1 dX7_findIdleRows_65 rfl (lv_at hl 1 rfl) ?_
          refine rg_getr hE hH cf_X7 fl_X7_27 rfl (mt) (kt) (v := t + 1) (r2) dX7_findIdleRows_66 ?_
          refine lv_iload_n hE.1 hE.2.1 dX7_findIdleRows_69 rfl (lv_at hl 2 rfl) ?_
          refine rg_VI (As := [.int (nI (f + 1)), .ref (G.ad (t + 1)), .int (nI c)]) (rest := []) hE hml hH mc_X7_104 (c_Ro_first l z G iv3 jv (b + 30) hL.2.2.2.1 (f + 1) (tR tab) (by omega) hR40 hLy3.2.2.1 t (tm tab) (tC tab) c hCa hm5 (by omega) (vOf (tf tab) (tm tab) c) (fun i hi => ⟨hCV3 i hi c (by omega), vOf_lt hk hi⟩) (fun k i => (tce tab k i).testBit (vOf (tf tab) (tm tab) c i)) (fun k hkr => hLy3.msk hk hkr)) (hL.2.2.2.1.1.1) (hL.2.2.2.1.1.2) (by decide) rfl ⟨Nat.le_of_ble_eq_true rfl, Nat.le_of_ble_eq_true rfl⟩ rfl hl.1 (by simp [Value.category]) dX7_findIdleRows_70 ⟨Nat.le_of_ble_eq_true rfl, Nat.le_of_ble_eq_true rfl⟩ (fun r70 G70 iv70 jv70 H locs hp70 hH => ?_)
          obtain ⟨rfl, rfl, rfl, rfl⟩ := hp70
          refine rn_as (v' := oI (frowX tab c f)) (by rw [frowX_F hf]; congr 2; funext k; rw [fit_all]) ?_
          refine lv_istore_n (lv' := [(3, .int (oI (frowX tab c f))), (2, .int (nI f)), (0, .ref (G.ad t)), (1, .int (nI c))]) hE.1 hE.2.1 dX7_findIdleRows_73 rfl hl (by decide) rfl (fun ls hl => ?_)
          refine lv_aload_n hE.1 hE.2.1 dX7_findIdleRows_74 rfl (lv_at hl 2 rfl) ?_
          refine rg_getr hE hH cf_X7 fl_X7_58 rfl (mt) (kt) (v := t + 16) (r11) dX7_findIdleRows_75 ?_
          refine lv_iload_n hE.1 hE.2.1 dX7_findIdleRows_78 rfl (lv_at hl 1 rfl) ?_
          refine lv_iload_n hE.1 hE.2.1 dX7_findIdleRows_79 rfl (lv_at hl 0 rfl) ?_
          refine lv_iconst (v := -1) hE.1 hE.2.1 dX7_findIdleRows_80 (by decide) ?_
          refine lv_icmp_eq (tgt := 109) hE.1 hE.2.1 dX7_findIdleRows_81 (by decide) (fun c81 => ?_) (fun c81 => ?_)
          · rw [oI_m1 (fun k hk2 => by rw [frowX_F hf] at hk2; have := (fnd_lt hk2).1; omega)] at c81
            have hx : decide ((frowX tab c f).map (tvv tab) = some (tvv tab f)) = false := by rw [c81]; rfl
            refine lv_iconst (v := nI 0) hE.1 hE.2.1 dX7_findIdleRows_109 (by decide) ?_
            refine rg_zast hE hH (hA16.1) (hA16.2.1) (by omega) (v := nI 0) (w := nI 0) (by decide) dX7_findIdleRows_110 (fun H locs hH => ?_)
            have hU : Fr iv3 (up2 iv3 (t + 16) f (nI 0)) (fun lb j => lb = t + 16 ∧ j = f) := Fr.up Fr.rf ⟨rfl, rfl⟩
            have hid4 : ∀ k, k < tR tab → (up2 iv3 (t + 16) f (nI 0)) (t + 16) k = bI (idlI tab k (c + 1)) := fun k hk => by
              by_cases hkf : k = f
              · subst hkf; rw [up2_s, idlI_s hf, c52, hx]; rfl
              · rw [up2_k (by omega), idlI_n (by rw [hf]; simp; omega)]; exact hid k hk
            have h124 : (up2 iv3 (t + 16) f (nI 0)) t 12 = nI 0 := (hU _ _ (by omega)).trans h12
            have hFr4 : Fr iv (up2 iv3 (t + 16) f (nI 0)) (fun lb j => lb = t + 16 ∨ (lb = t ∧ j = 12)) := Fr.up hFr (Or.inl rfl)
            refine lv_iinc (v := nI (c + 1)) (lv' := [(1, .int (nI (c + 1))), (3, .int (oI (frowX tab c f))), (2, .int (nI f)), (0, .ref (G.ad t))]) hE.1 hE.2.1 dX7_findIdleRows_111 hl (k := 3) rfl (nI_1 _) (by decide) rfl (fun ls hl => ?_)
            refine lv_goto (tgt := 26) hE.1 hE.2.1 dX7_findIdleRows_114 (by decide) ?_
            exact ih26 (up2 iv3 (t + 16) f (nI 0), c + 1) _ _ _ (show tC tab - (c + 1) < tC tab - c by omega) ⟨by show c + 1 ≤ tC tab; omega, hid4, h124, hFr4⟩ (lv_sub hl [3, 0] rfl) hH
          · obtain ⟨g, hg⟩ := oI_som c81
            have hgR : g < tR tab := by rw [frowX_F hf] at hg; exact (fnd_lt hg).1
            have hgv := (hk.2.2.2.2.2.2.2 g hgR).2
            have hx : decide ((frowX tab c f).map (tvv tab) = some (tvv tab f)) = decide (tvv tab g = tvv tab f) := by rw [hg]; simp
            have hl : lv_has ls 4 [(3, .int (nI g)), (2, .int (nI f)), (0, .ref (G.ad t)), (1, .int (nI c))] := by rw [hg] at hl; exact hl
            refine lv_aload_n hE.1 hE.2.1 dX7_findIdleRows_84 rfl (lv_at hl 2 rfl) ?_
            refine rg_getr hE hH cf_X7 fl_X7_9 rfl (mt) (kt) (v := b) (r0) dX7_findIdleRows_85 ?_
            refine rg_getr hE hH cf_X1 fl_X7_43 rfl (hL.1.1) (hL.1.2) (v := b + 30) (hL.2.2.2.2.2.2.2) dX7_findIdleRows_88 ?_
            refine rg_getr hE hH cf_X6 fl_X7_115 rfl (hL.2.2.2.1.1.1) (hL.2.2.2.1.1.2) (v := b + 30 + 2) (hL.2.2.2.1.2.2.2.2) dX7_findIdleRows_91 ?_
            refine lv_iload_n hE.1 hE.2.1 dX7_findIdleRows_94 rfl (lv_at hl 0 rfl) ?_
            refine rg_iald hE hH (hL.2.2.2.1.2.2.1.1) (hL.2.2.2.1.2.2.1.2.1) (by omega) (v := nI (tvv tab g)) ((hLy3.2.2.2.2 g hgR).2) dX7_findIdleRows_95 ?_
            refine lv_aload_n hE.1 hE.2.1 dX7_findIdleRows_96 rfl (lv_at hl 2 rfl) ?_
            refine rg_getr hE hH cf_X7 fl_X7_30 rfl (mt) (kt) (v := t + 10) (r3) dX7_findIdleRows_97 ?_
            refine lv_iload_n hE.1 hE.2.1 dX7_findIdleRows_100 rfl (lv_at hl 3 rfl) ?_
            refine rg_iald hE hH (hA10.1) (hA10.2.1) (by omega) (v := nI (tvv tab f)) ((hFr _ _ (by omega)).trans ((hdn c (by omega)).1.trans (by rw [ans, hf]; rfl))) dX7_findIdleRows_101 ?_
            refine rb_icmp_ne (t1 := 109) (t2 := 110) hE dX7_findIdleRows_102 (by decide) dX7_findIdleRows_105 dX7_findIdleRows_106 (by decide) dX7_findIdleRows_109 rfl (by omega) (by omega) ?_
            refine rg_zast hE hH (hA16.1) (hA16.2.1) (by omega) (v := bI (decide (tvv tab g = tvv tab f))) (w := bI (decide (tvv tab g = tvv tab f))) (nar_bI) dX7_findIdleRows_110 (fun H locs hH => ?_)
            have hU : Fr iv3 (up2 iv3 (t + 16) f (bI (decide (tvv tab g = tvv tab f)))) (fun lb j => lb = t + 16 ∧ j = f) := Fr.up Fr.rf ⟨rfl, rfl⟩
            have hid4 : ∀ k, k < tR tab → (up2 iv3 (t + 16) f (bI (decide (tvv tab g = tvv tab f)))) (t + 16) k = bI (idlI tab k (c + 1)) := fun k hk => by
              by_cases hkf : k = f
              · subst hkf; rw [up2_s, idlI_s hf, c52, hx]; rfl
              · rw [up2_k (by omega), idlI_n (by rw [hf]; simp; omega)]; exact hid k hk
            have h124 : (up2 iv3 (t + 16) f (bI (decide (tvv tab g = tvv tab f)))) t 12 = nI 0 := (hU _ _ (by omega)).trans h12
            have hFr4 : Fr iv (up2 iv3 (t + 16) f (bI (decide (tvv tab g = tvv tab f)))) (fun lb j => lb = t + 16 ∨ (lb = t ∧ j = 12)) := Fr.up hFr (Or.inl rfl)
            refine lv_iinc (v := nI (c + 1)) (lv' := [(1, .int (nI (c + 1))), (3, .int (nI g)), (2, .int (nI f)), (0, .ref (G.ad t))]) hE.1 hE.2.1 dX7_findIdleRows_111 hl (k := 3) rfl (nI_1 _) (by decide) rfl (fun ls hl => ?_)
            refine lv_goto (tgt := 26) hE.1 hE.2.1 dX7_findIdleRows_114 (by decide) ?_
            exact ih26 (up2 iv3 (t + 16) f (bI (decide (tvv tab g = tvv tab f))), c + 1) _ _ _ (show tC tab - (c + 1) < tC tab - c by omega) ⟨by show c + 1 ≤ tC tab; omega, hid4, h124, hFr4⟩ (lv_sub hl [3, 0] rfl) hH
  · refine lv_aload_n hE.1 hE.2.1 dX7_findIdleRows_11 rfl (lv_at hl 0 rfl) ?_
    refine rg_getr hE hH cf_X7 fl_X7_58 rfl (mt) (kt) (v := t + 16) (r11) dX7_findIdleRows_12 ?_
    refine lv_iload_n hE.1 hE.2.1 dX7_findIdleRows_15 rfl (lv_at hl 1 rfl) ?_
    refine lv_iconst (v := nI 1) hE.1 hE.2.1 dX7_findIdleRows_16 (by decide) ?_
    refine rg_zast hE hH (hA16.1) (hA16.2.1) (by omega) (v := nI 1) (w := nI 1) (by decide) dX7_findIdleRows_17 (fun H locs hH => ?_)
    refine lv_iinc (v := nI (r + 1)) (lv' := [(1, .int (nI (r + 1))), (0, .ref (G.ad t))]) hE.1 hE.2.1 dX7_findIdleRows_18 hl (k := 1) rfl (nI_1 _) (by decide) rfl (fun ls hl => ?_)
    refine lv_goto (tgt := 2) hE.1 hE.2.1 dX7_findIdleRows_21 (by decide) ?_
    exact ih2 (up2 iv2 (t + 16) r (nI 1), r + 1) _ _ _ (show tR tab - (r + 1) < tR tab - r by omega) ⟨by show r + 1 ≤ tR tab; omega, fun k hk => by
      dsimp only at hk ⊢
      by_cases hkr : k = r
      · subst hkr; exact up2_s
      · rw [up2_k (by omega)]; exact hid k (by omega), Fr.up hFr rfl⟩ (lv_sub hl [1, 0] rfl) hH
