set_option maxRecDepth 100000 in
set_option maxHeartbeats 4000000 in
theorem lw_loop {p : Program} {l : Launch} {e : Env} {s : State} {m : MethodId} {below : List Frame} {meth : Method} {c : Code} {D : va_G} {cy : Nat → ClassId} {z : ZK} {b L : Nat} {xs : Nat → Int32} (hLE : lwE p l s m meth c D cy z b L xs) :
    ∀ (n i : Nat) (G : GW) (iv : IV) (jv : JV) (a : AS) (H : Heap) (locs : List Loc) (cells slots : Nat) (ls : Array Slot), L + 6 ≤ i + n → i ≤ L + 5 → HS D cy G (fun q : Nat => s.heap.size ≤ q) s.heap iv jv H locs → lwS G iv jv a → lwB i a cells slots → lv_has ls 7 (lvL G b i) → W p l e room_1 s m #[Value.ref b] below meth c H locs cells slots (lw_Z below #[Value.ref b] s) (F0 m 23 ls []) := by
  intro n
  induction n with
  | zero => intro i G iv jv a H locs cells slots ls h1 h2; exact absurd h1 (by omega)
  | succ n ih =>
    intro i G iv jv a H locs cells slots ls hn hiL hH hS hB hl
    obtain ⟨hE, hml, hXs, hbl, hlt, hL3, hrt, hlk⟩ := id hLE
    have hbA : ¬ (fun q : Nat => s.heap.size ≤ q) b := Nat.not_le.mpr hbl
    have hT6 := hS.2.2.1.2.2.2.2.1.2.1
    have hP12 := hS.2.2.1.2.2.2.2.2.1.2.1
    refine lv_iload hE.1 hE.2.1 dL_law_23 (lv_at hl 4 rfl) ?_
    refine lv_aload_n hE.1 hE.2.1 dL_law_25 rfl (lv_at hl 0 rfl) ?_
    refine sc_len hE hXs hbl hbA hH dL_law_26 ?_
    refine lv_bipush (v := nI 6) hE.1 hE.2.1 dL_law_27 (by decide) ?_
    refine lv_isub hE.1 hE.2.1 dL_law_29 ?_
    refine lv_icmp_gt (tgt := 1411) hE.1 hE.2.1 dL_law_30 (by decide) (fun c30 => ?_) (fun c30 => ?_)
    · refine lv_iconst (v := nI 1) hE.1 hE.2.1 dL_law_1411 (by decide) ?_
      refine va_forget (fun q hq => hH.2.2.2.1.2.2 q hq) ?_
      refine W.widen (k := 601024) (n := 7293034) (Nat.le_trans hB.1 (by omega)) (Nat.le_trans hB.2 (by omega)) ?_
      exact lw_ret hE.1 hE.2.1 hrt hlk dL_law_1412
    · have hi5 : i + 5 < L := by
        have := (not_congr (gtL (by omega) hL3)).mp c30
        omega
      have K : ∀ (G' : GW) (iv' : IV) (jv' : JV) (a' : AS) (H' : Heap) (locs' : List Loc) (cells' slots' : Nat) (ls' : Array Slot), HS D cy G' (fun q : Nat => s.heap.size ≤ q) s.heap iv' jv' H' locs' → lwS G' iv' jv' a' → lwB (i + 6) a' cells' slots' → lv_has ls' 7 (lvL G' b i) → W p l e room_1 s m #[Value.ref b] below meth c H' locs' cells' slots' (lw_Z below #[Value.ref b] s) (F0 m 1405 ls' []) := by
        intro G' iv' jv' a' H' locs' cells' slots' ls' hH hS hB hl
        refine lv_iinc (v := nI (i + 6)) (lv' := [(4, .int (nI (i + 6))), (0, .ref b), (1, .ref (G'.ad 100)), (2, .ref (G'.ad 0)), (3, .ref (G'.ad 50))]) hE.1 hE.2.1 dL_law_1405 hl (k := 4) rfl (nI_add _ 6) (by decide) rfl (fun ls hl => ?_)
        refine lv_goto (tgt := 23) hE.1 hE.2.1 dL_law_1408 (by decide) ?_
        exact ih (i + 6) G' iv' jv' a' H' locs' cells' slots' _ (by omega) (by omega) hH hS hB (lv_sub hl [1, 2, 3, 4, 0] rfl)
      refine lv_aload_n hE.1 hE.2.1 dL_law_33 rfl (lv_at hl 0 rfl) ?_
      refine lv_iload hE.1 hE.2.1 dL_law_34 (lv_at hl 4 rfl) ?_
      refine sc_ld (i := i) hE hXs hbl hbA hH (by omega) hL3 dL_law_36 ?_
      refine lv_bipush (v := nI 31) hE.1 hE.2.1 dL_law_37 (by decide) ?_
      refine lv_iand hE.1 hE.2.1 dL_law_39 ?_
      generalize xs i &&& nI 31 = op
      by_cases hw40 : inI op 19 = true
      · obtain ⟨kw, hkl, hkw⟩ := inI_of (by decide) hw40
        rcases (show kw = 0 ∨ kw = 1 ∨ kw = 2 ∨ kw = 3 ∨ kw = 4 ∨ kw = 5 ∨ kw = 6 ∨ kw = 7 ∨ kw = 8 ∨ kw = 9 ∨ kw = 10 ∨ kw = 11 ∨ kw = 12 ∨ kw = 13 ∨ kw = 14 ∨ kw = 15 ∨ kw = 16 ∨ kw = 17 ∨ kw = 18 by omega) with rfl | rfl | rfl | rfl | rfl | rfl | rfl | rfl | rfl | rfl | rfl | rfl | rfl | rfl | rfl | rfl | rfl | rfl | rfl
        · subst hkw
          refine lv_tableIn (x := nI 0) (off := 92) (tgt := 132) hE.1 hE.2.1 dL_law_40 (by decide) (by decide) rfl (by decide) ?_
          exact lo_0 hLE hi5 hH hS hB (lv_sub hl [0, 1, 2, 3, 4] rfl) K
        · subst hkw
          refine lv_tableIn (x := nI 1) (off := 165) (tgt := 205) hE.1 hE.2.1 dL_law_40 (by decide) (by decide) rfl (by decide) ?_
          exact lo_1 hLE hi5 hH hS hB (lv_sub hl [0, 1, 2, 3, 4] rfl) K
        · subst hkw
          refine lv_tableIn (x := nI 2) (off := 221) (tgt := 261) hE.1 hE.2.1 dL_law_40 (by decide) (by decide) rfl (by decide) ?_
          exact lo_2 hLE hi5 hH hS hB (lv_sub hl [0, 1, 2, 3, 4] rfl) K
        · subst hkw
          refine lv_tableIn (x := nI 3) (off := 289) (tgt := 329) hE.1 hE.2.1 dL_law_40 (by decide) (by decide) rfl (by decide) ?_
          exact lo_3 hLE hi5 hH hS hB (lv_sub hl [0, 1, 2, 3, 4] rfl) K
        · subst hkw
          refine lv_tableIn (x := nI 4) (off := 302) (tgt := 342) hE.1 hE.2.1 dL_law_40 (by decide) (by decide) rfl (by decide) ?_
          exact lo_4 hLE hi5 hH hS hB (lv_sub hl [0, 1, 2, 3, 4] rfl) K
        · subst hkw
          refine lv_tableIn (x := nI 5) (off := 370) (tgt := 410) hE.1 hE.2.1 dL_law_40 (by decide) (by decide) rfl (by decide) ?_
          exact lo_5 hLE hi5 hH hS hB (lv_sub hl [0, 1, 2, 3, 4] rfl) K
        · subst hkw
          refine lv_tableIn (x := nI 6) (off := 450) (tgt := 490) hE.1 hE.2.1 dL_law_40 (by decide) (by decide) rfl (by decide) ?_
          exact lo_6 hLE hi5 hH hS hB (lv_sub hl [0, 1, 2, 3, 4] rfl) K
        · subst hkw
          refine lv_tableIn (x := nI 7) (off := 530) (tgt := 570) hE.1 hE.2.1 dL_law_40 (by decide) (by decide) rfl (by decide) ?_
          exact lo_7 hLE hi5 hH hS hB (lv_sub hl [0, 1, 2, 3, 4] rfl) K
        · subst hkw
          refine lv_tableIn (x := nI 8) (off := 598) (tgt := 638) hE.1 hE.2.1 dL_law_40 (by decide) (by decide) rfl (by decide) ?_
          exact lo_8 hLE hi5 hH hS hB (lv_sub hl [0, 1, 2, 3, 4] rfl) K
        · subst hkw
          refine lv_tableIn (x := nI 9) (off := 678) (tgt := 718) hE.1 hE.2.1 dL_law_40 (by decide) (by decide) rfl (by decide) ?_
          exact lo_9 hLE hi5 hH hS hB (lv_sub hl [0, 1, 2, 3, 4] rfl) K
        · subst hkw
          refine lv_tableIn (x := nI 10) (off := 753) (tgt := 793) hE.1 hE.2.1 dL_law_40 (by decide) (by decide) rfl (by decide) ?_
          exact lo_10 hLE hi5 hH hS hB (lv_sub hl [0, 1, 2, 3, 4] rfl) K
        · subst hkw
          refine lv_tableIn (x := nI 11) (off := 833) (tgt := 873) hE.1 hE.2.1 dL_law_40 (by decide) (by decide) rfl (by decide) ?_
          exact lo_11 hLE hi5 hH hS hB (lv_sub hl [0, 1, 2, 3, 4] rfl) K
        · subst hkw
          refine lv_tableIn (x := nI 12) (off := 913) (tgt := 953) hE.1 hE.2.1 dL_law_40 (by decide) (by decide) rfl (by decide) ?_
          exact lo_12 hLE hi5 hH hS hB (lv_sub hl [0, 1, 2, 3, 4] rfl) K
        · subst hkw
          refine lv_tableIn (x := nI 13) (off := 969) (tgt := 1009) hE.1 hE.2.1 dL_law_40 (by decide) (by decide) rfl (by decide) ?_
          exact lo_13 hLE hi5 hH hS hB (lv_sub hl [0, 1, 2, 3, 4] rfl) K
        · subst hkw
          refine lv_tableIn (x := nI 14) (off := 1025) (tgt := 1065) hE.1 hE.2.1 dL_law_40 (by decide) (by decide) rfl (by decide) ?_
          exact lo_14 hLE hi5 hH hS hB (lv_sub hl [0, 1, 2, 3, 4] rfl) K
        · subst hkw
          refine lv_tableIn (x := nI 15) (off := 1093) (tgt := 1133) hE.1 hE.2.1 dL_law_40 (by decide) (by decide) rfl (by decide) ?_
          exact lo_15 hLE hi5 hH hS hB (lv_sub hl [0, 1, 2, 3, 4] rfl) K
        · subst hkw
          refine lv_tableIn (x := nI 16) (off := 1161) (tgt := 1201) hE.1 hE.2.1 dL_law_40 (by decide) (by decide) rfl (by decide) ?_
          exact lo_16 hLE hi5 hH hS hB (lv_sub hl [0, 1, 2, 3, 4] rfl) K
        · subst hkw
          refine lv_tableIn (x := nI 17) (off := 1229) (tgt := 1269) hE.1 hE.2.1 dL_law_40 (by decide) (by decide) rfl (by decide) ?_
          exact lo_17 hLE hi5 hH hS hB (lv_sub hl [0, 1, 2, 3, 4] rfl) K
        · subst hkw
          refine lv_tableIn (x := nI 18) (off := 1309) (tgt := 1349) hE.1 hE.2.1 dL_law_40 (by decide) (by decide) rfl (by decide) ?_
          exact lo_18 hLE hi5 hH hS hB (lv_sub hl [0, 1, 2, 3, 4] rfl) K
      · refine lv_tableOut (tgt := 1405) hE.1 hE.2.1 dL_law_40 (by have := inI_out (by decide) hw40; omega) (by decide) ?_
        exact K _ _ _ _ _ _ _ _ _ hH hS ⟨Nat.le_trans hB.1 (by omega), Nat.le_trans hB.2 (by omega)⟩ (lv_sub hl [0, 1, 2, 3, 4] rfl)
