/-! ===== gains ===== -/
theorem cntN_c {p q : Nat → Bool} : ∀ {n : Nat}, (∀ c, c < n → p c = q c) → cntN p n = cntN q n
  | 0, _ => rfl
  | n + 1, h => by rw [cntN, cntN, cntN_c (fun c hc => h c (by omega)), h n (by omega)]
theorem cntN_1 {k : Nat} : ∀ {n : Nat}, k < n → cntN (fun d => decide (d = k)) n = 1
  | 0, h => absurd h (Nat.not_lt_zero k)
  | n + 1, h => by
    rw [cntN]
    by_cases hk : n = k
    · subst hk
      rw [cntN_zero (fun c hc => decide_eq_false (by omega)), if_pos (decide_eq_true rfl)]
    · rw [cntN_1 (show k < n by omega), if_neg (by simp [hk])]
def opn (tab : Tab) (of : Nat) (held : Nat → Bool) (c : Nat) : Bool := decide (ans tab c = wnt of) && !held c
def gSum (tab : Tab) (of : Nat) (held : Nat → Bool) (q i k : Nat) : Nat := cntN (fun c => opn tab of held c && hld tab q c && decide (vOf (tf tab) (tm tab) c i < k)) (tC tab)
theorem gSum_0 {tab : Tab} {of : Nat} {held : Nat → Bool} {q i : Nat} : gSum tab of held q i 0 = 0 := cntN_zero (fun c _ => by rw [decide_eq_false (by omega), Bool.and_false])
theorem gSum_s {tab : Tab} {of : Nat} {held : Nat → Bool} {q i k : Nat} (hi : i < tm tab) (hq : tAt tab q i = none) (hk : k < tf tab i) : gSum tab of held q i (k + 1) = gSum tab of held q i k + gn tab (wnt of) held (nrw tab q i k) := by
  unfold gSum gn
  apply cntN_add
  · intro c _
    rw [hld_nrw hi hq hk]
    show (opn tab of held c && hld tab q c && _) = (opn tab of held c && hld tab q c && _ || (opn tab of held c && (hld tab q c && _)))
    rw [← Bool.and_assoc, ← Bool.and_or_distrib_left]
    congr 1
    rw [Bool.eq_iff_iff, Bool.or_eq_true, decide_eq_true_eq, decide_eq_true_eq, decide_eq_true_eq]
    omega
  · intro c _ h
    rw [hld_nrw hi hq hk] at h
    simp only [Bool.and_eq_true, decide_eq_true_eq] at h
    omega
theorem gSum_all {tab : Tab} (hk : tabOK tab) {of : Nat} {held : Nat → Bool} {q i : Nat} (hi : i < tm tab) : gSum tab of held q i (tf tab i) = gn tab (wnt of) held q := by
  have hf := hk.2.2.1 i hi
  unfold gSum gn
  apply cntN_c
  intro c _
  rw [decide_eq_true (show vOf (tf tab) (tm tab) c i < tf tab i from Nat.mod_lt _ (by omega)), Bool.and_true]
  rfl
theorem gSum_le {tab : Tab} {of : Nat} {held : Nat → Bool} {q i k : Nat} : gSum tab of held q i k ≤ tC tab := cntN_le _
theorem gn_full {tab : Tab} {of : Nat} {held : Nat → Bool} {q : Nat} (hq : q < tT tab) (h : fA tab q = none) : gn tab (wnt of) held q = if opn tab of held (kas tab q) = true then 1 else 0 := by
  unfold gn
  split
  · rename_i h1
    rw [← cntN_1 (kas_lt hq h)]
    apply cntN_c
    intro c hc
    rw [Bool.eq_iff_iff, Bool.and_eq_true, hld_kas hq h hc, decide_eq_true_eq]
    exact ⟨fun h => h.2, fun h => ⟨by rw [h]; exact h1, h⟩⟩
  · rename_i h1
    apply cntN_zero
    intro c hc
    cases hb : (decide (ans tab c = wnt of) && !held c && hld tab q c) with
    | false => rfl
    | true =>
      rw [Bool.and_eq_true, hld_kas hq h hc] at hb
      exact absurd (by rw [← hb.2]; exact hb.1) h1
def gS (tab : Tab) (of : Nat) (held : Nat → Bool) (q : Nat) : Nat := if toI tab q (tC tab) = nI of then gn tab (wnt of) held q else 0
theorem gS_le {tab : Tab} {of : Nat} {held : Nat → Bool} {q : Nat} : gS tab of held q ≤ tC tab := by
  unfold gS; split
  · exact cntN_le _
  · exact Nat.zero_le _
theorem gS_nrw {tab : Tab} (hk : tabOK tab) {of : Nat} (ho : of ≤ 6) {held : Nat → Bool} {q i u : Nat} (hi : i < tm tab) (hq : tAt tab q i = none) (hu : u < tf tab i) (hto : toI tab q (tC tab) = nI of) : gS tab of held (nrw tab q i u) = gn tab (wnt of) held (nrw tab q i u) := by
  unfold gS
  by_cases hp : toI tab (nrw tab q i u) (tC tab) = nI of
  · rw [if_pos hp]
  · rw [if_neg hp]
    symm
    have hsub : ∀ c, hld tab (nrw tab q i u) c = true → hld tab q c = true := fun c h => by
      rw [hld_nrw hi hq hu, Bool.and_eq_true] at h; exact h.1
    apply cntN_zero
    intro c hc
    cases hb : (decide (ans tab c = wnt of) && !held c && hld tab (nrw tab q i u) c) with
    | false => rfl
    | true =>
      exfalso
      rw [Bool.and_eq_true, Bool.and_eq_true, decide_eq_true_eq] at hb
      apply hp
      by_cases h6 : of = 6
      · subst h6
        have hn : ∀ c, c < tC tab → hld tab q c = true → ans tab c = none := by
          rcases toI_ch hk (q := q) (tC tab) with h | ⟨v, h1, h2, -⟩ | h
          · exact h.2
          · rw [hto, nI_eq (by decide) (by omega)] at h2; omega
          · rw [hto] at h; exact absurd h.1 (nI_ne_m1 (by decide))
        rcases toI_ch hk (q := nrw tab q i u) (tC tab) with h | ⟨v, h1, h2, ⟨d, h3, h4, h5⟩, -⟩ | ⟨-, v, w, -, ⟨d, h3, h4, h5⟩, -⟩
        · exact h.1
        · rw [hn d h3 (hsub d h4)] at h5; cases h5
        · rw [hn d h3 (hsub d h4)] at h5; cases h5
      · have hw : wnt of = some of := by unfold wnt; rw [if_neg h6]
        have hn : ∀ c, c < tC tab → hld tab q c = true → ∀ w, ans tab c = some w → w = of := by
          rcases toI_ch hk (q := q) (tC tab) with h | ⟨v, h1, h2, -, h3⟩ | h
          · rw [hto, nI_eq (by omega) (by decide)] at h; exact absurd h.1 h6
          · rw [hto, nI_eq (by omega) (by omega)] at h2; rw [h2]; exact h3
          · rw [hto] at h; exact absurd h.1 (nI_ne_m1 (by omega))
        rw [hw] at hb
        rcases toI_ch hk (q := nrw tab q i u) (tC tab) with h | ⟨v, h1, h2, ⟨d, h3, h4, h5⟩, -⟩ | ⟨-, v, w, h1, ⟨d, h3, h4, h5⟩, ⟨e, h6, h7, h8⟩⟩
        · have := h.2 c hc hb.2; rw [hb.1.1] at this; cases this
        · rw [h2, hn d h3 (hsub d h4) v h5]
        · exact absurd ((hn d h3 (hsub d h4) v h5).trans (hn e h6 (hsub e h7) w h8).symm) h1
theorem bsI_v {tab : Tab} {of : Nat} {held : Nat → Bool} : ∀ t, ((bsI tab of held t).1 = none → (bsI tab of held t).2.1 = 0) ∧ ∀ q, (bsI tab of held t).1 = some q → (bsI tab of held t).2.1 ≠ 0 ∧ (bsI tab of held t).2.2 = tld tab q ∧ q < t
  | 0 => ⟨fun _ => rfl, fun q h => by cases h⟩
  | t + 1 => by
    have ih := bsI_v (tab := tab) (of := of) (held := held) t
    rw [bsI]
    split
    · rename_i h
      refine ⟨fun h2 => (by cases h2), fun q hq => ?_⟩
      cases hq
      exact ⟨fun h0 => h.2 (Or.inr (Or.inl h0)), rfl, by omega⟩
    · exact ⟨ih.1, fun q hq => ⟨(ih.2 q hq).1, (ih.2 q hq).2.1, by have := (ih.2 q hq).2.2; omega⟩⟩
theorem bsI_y {tab : Tab} {of : Nat} {held : Nat → Bool} {t : Nat} (h : (bsI tab of held t).2.1 < gS tab of held t ∨ (gS tab of held t = (bsI tab of held t).2.1 ∧ ∃ b, (bsI tab of held t).1 = some b ∧ tld tab t < tld tab b)) : bsI tab of held (t + 1) = (some t, gS tab of held t, tld tab t) := by
  have ih := bsI_v (tab := tab) (of := of) (held := held) t
  have h0 : gS tab of held t ≠ 0 := by
    rcases h with h | ⟨h, b, hb, -⟩
    · omega
    · rw [h]; exact (ih.2 b hb).1
  have ht : toI tab t (tC tab) = nI of := Classical.byContradiction (fun hn => h0 (by unfold gS; rw [if_neg hn]))
  have hg : gS tab of held t = gn tab (wnt of) held t := by unfold gS; rw [if_pos ht]
  rw [hg] at h h0 ⊢
  have hc : ¬ (gn tab (wnt of) held t < (bsI tab of held t).2.1 ∨ gn tab (wnt of) held t = 0 ∨ (gn tab (wnt of) held t = (bsI tab of held t).2.1 ∧ (bsI tab of held t).2.2 ≤ tld tab t)) := by
    rintro (h1 | h1 | ⟨h1, h2⟩)
    · rcases h with h | h <;> omega
    · exact h0 h1
    · rcases h with h | ⟨h, b, hb, h3⟩
      · omega
      · have := (ih.2 b hb).2.1; omega
  rw [bsI, if_pos ⟨ht, hc⟩]
theorem bsI_x {tab : Tab} {of : Nat} {held : Nat → Bool} {t : Nat} (h : ¬ ((bsI tab of held t).2.1 < gS tab of held t ∨ (gS tab of held t = (bsI tab of held t).2.1 ∧ ∃ b, (bsI tab of held t).1 = some b ∧ tld tab t < tld tab b))) : bsI tab of held (t + 1) = bsI tab of held t := by
  have ih := bsI_v (tab := tab) (of := of) (held := held) t
  rw [bsI, if_neg]
  rintro ⟨ht, h1⟩
  have hg : gS tab of held t = gn tab (wnt of) held t := by unfold gS; rw [if_pos ht]
  rw [hg] at h
  apply h
  by_cases h2 : (bsI tab of held t).2.1 < gn tab (wnt of) held t
  · exact Or.inl h2
  · right
    have e : gn tab (wnt of) held t = (bsI tab of held t).2.1 := by
      refine Nat.le_antisymm (Nat.le_of_not_lt h2) (Nat.le_of_not_lt (fun h3 => h1 (Or.inl h3)))
    refine ⟨e, ?_⟩
    cases hb : (bsI tab of held t).1 with
    | none => exact absurd (Or.inr (Or.inl (e.trans (ih.1 hb)))) h1
    | some b =>
      refine ⟨b, rfl, Nat.lt_of_not_le (fun h3 => h1 (Or.inr (Or.inr ⟨e, ?_⟩)))⟩
      rw [(ih.2 b hb).2.1]; exact h3
theorem bst_to {tab : Tab} {of : Nat} {held : Nat → Bool} : ∀ t q, (bsI tab of held t).1 = some q → toI tab q (tC tab) = nI of
  | 0, q, h => by cases h
  | t + 1, q, h => by
    rw [bsI] at h
    split at h
    · rename_i h1; cases h; exact h1.1
    · exact bst_to t q h
theorem tka_to {tab : Tab} {of : Nat} : ∀ f held, ∀ q ∈ tka tab of f held, toI tab q (tC tab) = nI of
  | 0, _, q, h => by cases h
  | f + 1, held, q, h => by
    unfold tka at h
    cases hb : bst tab of held with
    | none => rw [hb] at h; cases h
    | some t =>
      rw [hb] at h
      rcases List.mem_cons.mp h with rfl | h
      · exact bst_to (tT tab) q hb
      · exact tka_to f _ q h
theorem ruleU_to {tab : Tab} : ∀ (v : Nat), ∀ x ∈ ruleU tab v, toI tab x.1 (tC tab) = nI x.2
  | 0, x, h => by cases h
  | v + 1, x, h => by
    unfold ruleU at h
    rcases List.mem_append.mp h with h | h
    · exact ruleU_to v x h
    · obtain ⟨t, ht, rfl⟩ := List.mem_map.mp h
      exact tka_to 400 _ t ht
/-! open CASES -/
def HO (iv : IV) (u : Nat) (tab : Tab) (of : Nat) (held : Nat → Bool) : Prop := iv u 9 = nI (uh tab of held) ∧ ∀ c, c < tC tab → iv (u + 14) c = bI (opn tab of held c)
def hMx (tab : Tab) (q : Nat) (held : Nat → Bool) (c : Nat) : Nat → Bool := fun d => held d || (decide (d < c) && hld tab q d)
theorem hMx_0 {tab : Tab} {q : Nat} {held : Nat → Bool} : hMx tab q held 0 = held := by
  funext d; unfold hMx; rw [decide_eq_false (by omega)]; simp
theorem uh_opn {tab : Tab} {of : Nat} {held : Nat → Bool} : uh tab of held = cntN (opn tab of held) (tC tab) := rfl
theorem uh_c {tab : Tab} {of : Nat} {held held2 : Nat → Bool} (h : ∀ c, c < tC tab → held c = held2 c) : uh tab of held = uh tab of held2 := by
  unfold uh; exact cntN_c (fun c hc => by rw [h c hc])
theorem hMx_C {tab : Tab} {q : Nat} {held : Nat → Bool} {c : Nat} (hc : c < tC tab) : hMx tab q held (tC tab) c = hup tab q held c := by
  unfold hMx hup; rw [decide_eq_true hc, Bool.true_and]
theorem HO.c {iv : IV} {u : Nat} {tab : Tab} {of : Nat} {held held2 : Nat → Bool} (h : HO iv u tab of held) (e : ∀ c, c < tC tab → held c = held2 c) : HO iv u tab of held2 :=
  ⟨by rw [← uh_c e]; exact h.1, fun c hc => by rw [h.2 c hc, opn, opn, e c hc]⟩
theorem hMx_n {tab : Tab} {q : Nat} {held : Nat → Bool} {c d : Nat} (h : d ≠ c ∨ hld tab q c = false) : hMx tab q held (c + 1) d = hMx tab q held c d := by
  unfold hMx
  by_cases hdc : d = c
  · subst hdc
    rcases h with h | h
    · exact absurd rfl h
    · rw [h, Bool.and_false, Bool.and_false]
  · congr 2
    exact decide_eq_decide.mpr (by omega)
theorem hMx_s {tab : Tab} {q : Nat} {held : Nat → Bool} {c : Nat} (h : hld tab q c = true) : hMx tab q held (c + 1) c = true := by
  unfold hMx; rw [h, decide_eq_true (by omega)]; simp
theorem opn_x {tab : Tab} {of q : Nat} {held : Nat → Bool} {c : Nat} (h : opn tab of (hMx tab q held c) c = false ∨ hld tab q c = false) : ∀ d, opn tab of (hMx tab q held (c + 1)) d = opn tab of (hMx tab q held c) d := fun d => by
  by_cases hdc : d = c
  · subst hdc
    rcases h with h | h
    · by_cases hh : hld tab q d = true
      · rw [h]; unfold opn; rw [hMx_s hh]; simp
      · rw [opn, opn, hMx_n (Or.inr (by simpa using hh))]
    · rw [opn, opn, hMx_n (Or.inr h)]
  · rw [opn, opn, hMx_n (Or.inl hdc)]
theorem uh_y {tab : Tab} {of q : Nat} {held : Nat → Bool} {c : Nat} (hc : c < tC tab) (h1 : opn tab of (hMx tab q held c) c = true) (h2 : hld tab q c = true) : uh tab of (hMx tab q held c) = uh tab of (hMx tab q held (c + 1)) + 1 := by
  have key : cntN (opn tab of (hMx tab q held c)) (tC tab) = cntN (opn tab of (hMx tab q held (c + 1))) (tC tab) + cntN (fun d => decide (d = c)) (tC tab) := by
    apply cntN_add
    · intro d _
      by_cases hdc : d = c
      · subst hdc; rw [h1, decide_eq_true rfl, Bool.or_true]
      · rw [decide_eq_false hdc, Bool.or_false, opn, opn, hMx_n (Or.inl hdc)]
    · rintro d _ ⟨h3, h4⟩
      have := of_decide_eq_true h4
      subst this
      unfold opn at h3
      rw [hMx_s h2] at h3
      simp at h3
  rw [cntN_1 hc] at key
  exact key
theorem HO.n {iv : IV} {u : Nat} {tab : Tab} {of q : Nat} {held : Nat → Bool} {c : Nat} (h : HO iv u tab of (hMx tab q held c)) (e : opn tab of (hMx tab q held c) c = false ∨ hld tab q c = false) : HO iv u tab of (hMx tab q held (c + 1)) :=
  ⟨by rw [uh_opn, cntN_c (fun d _ => opn_x e d)]; exact h.1, fun d hd => by rw [opn_x e d]; exact h.2 d hd⟩
theorem HO.y {iv : IV} {u : Nat} {tab : Tab} {of q : Nat} {held : Nat → Bool} {c : Nat} (h : HO iv u tab of (hMx tab q held c)) (hc : c < tC tab) (h1 : opn tab of (hMx tab q held c) c = true) (h2 : hld tab q c = true) : HO (up2 (up2 iv (u + 14) c (nI 0)) u 9 (nI (uh tab of (hMx tab q held c) - 1))) u tab of (hMx tab q held (c + 1)) := by
  refine ⟨?_, fun d hd => ?_⟩
  · rw [uh_y hc h1 h2, Nat.add_sub_cancel]; exact up2_s
  · rw [up2_l (by omega)]
    by_cases hdc : d = c
    · subst hdc
      rw [up2_s]
      unfold opn; rw [hMx_s h2]; simp; rfl
    · rw [up2_k (by omega), h.2 d hd, opn, opn, hMx_n (Or.inl hdc)]
theorem HO.fr {iv iv' : IV} {u : Nat} {tab : Tab} {of : Nat} {held : Nat → Bool} {P : Nat → Nat → Prop} (h : HO iv u tab of held) (hF : Fr iv iv' P) (h0 : ¬ P u 9) (h1 : ∀ c, ¬ P (u + 14) c) : HO iv' u tab of held :=
  ⟨(hF _ _ h0).trans h.1, fun c hc => (hF _ _ (h1 c)).trans (h.2 c hc)⟩
def TK (iv : IV) (t : Nat) (l : List Nat) : Prop := iv t 16 = nI l.length ∧ ∀ k, k < l.length → iv (t + 17) k = nI (l.getD k 0)
theorem TK.add {iv : IV} {t : Nat} {l : List Nat} (h : TK iv t l) (q : Nat) : TK (up2 (up2 iv (t + 17) l.length (nI q)) t 16 (nI (l.length + 1))) t (l ++ [q]) := by
  refine ⟨by rw [List.length_append]; exact up2_s, fun k hk => ?_⟩
  rw [up2_l (by omega)]
  by_cases hkl : k < l.length
  · rw [up2_k (by omega), getD_app_lt hkl]; exact h.2 k hkl
  · have : k = l.length := by rw [List.length_append, List.length_singleton] at hk; omega
    subst this
    rw [up2_s, getD_app_eq]
theorem TK.fr {iv iv' : IV} {t : Nat} {l : List Nat} {P : Nat → Nat → Prop} (h : TK iv t l) (hF : Fr iv iv' P) (h0 : ¬ P t 16) (h1 : ∀ c, ¬ P (t + 17) c) : TK iv' t l :=
  ⟨(hF _ _ h0).trans h.1, fun c hc => (hF _ _ (h1 c)).trans (h.2 c hc)⟩
/-- room for what is taken -/
theorem tk_room {tab : Tab} : ∀ v, v < 6 → (ruleU tab v).length + uh tab v (fun _ => false) ≤ tC tab := fun v hv => by
  have h1 := ruleU_len (tab := tab) v (by omega)
  have e : cntN (avl tab (v + 1)) (tC tab) = cntN (avl tab v) (tC tab) + uh tab v (fun _ => false) := by
    unfold uh
    apply cntN_add
    · intro c _
      unfold avl wnt
      rw [if_neg (by omega)]
      cases ans tab c with
      | none => simp
      | some w => simp; rw [Bool.eq_iff_iff]; simp; omega
    · intro c _
      unfold avl wnt
      rw [if_neg (by omega)]
      cases ans tab c with
      | none => simp
      | some w => simp; omega
  have h3 := cntN_le (p := avl tab (v + 1)) (tC tab)
  omega
theorem tk_room6 {tab : Tab} (hk : tabOK tab) : (rule tab).length + uh tab 6 (fun _ => false) ≤ tC tab := by
  have h1 := ruleU_len (tab := tab) (tO tab) hk.2.2.2.2.2.1
  have e : cntN (fun _ => true) (tC tab) = cntN (avl tab (tO tab)) (tC tab) + uh tab 6 (fun _ => false) := by
    unfold uh
    apply cntN_add
    · intro c _
      unfold avl wnt
      rw [if_pos rfl]
      cases ha : ans tab c with
      | none => simp
      | some w => have := ans_lt hk ha; simp [this]
    · intro c _
      unfold avl wnt
      rw [if_pos rfl]
      cases ans tab c with
      | none => simp
      | some w => simp
  have h3 := cntN_le (p := fun _ => true) (tC tab)
  unfold rule; omega
theorem tka_0 {tab : Tab} {of : Nat} {held : Nat → Bool} {f : Nat} (h : uh tab of held = 0) : tka tab of f held = [] := by
  have := tka_len (tab := tab) (of := of) f held
  exact List.eq_nil_of_length_eq_zero (by omega)
