theorem cntN_mono {p q : Nat → Bool} : ∀ {n : Nat}, (∀ c, c < n → p c = true → q c = true) → cntN p n ≤ cntN q n
  | 0, _ => Nat.le_refl _
  | n + 1, h => by
    have ih := cntN_mono (p := p) (q := q) (n := n) (fun c hc => h c (by omega))
    unfold cntN
    by_cases hp : p n = true
    · rw [if_pos hp, if_pos (h n (by omega) hp)]; omega
    · rw [if_neg hp]; split <;> omega
theorem cntN_lt {p q : Nat → Bool} : ∀ {n : Nat} (k : Nat), k < n → (∀ c, c < n → p c = true → q c = true) → q k = true → p k = false → cntN p n < cntN q n
  | 0, k, hk, _, _, _ => absurd hk (Nat.not_lt_zero k)
  | n + 1, k, hk, h, h1, h2 => by
    unfold cntN
    by_cases hkn : k = n
    · subst hkn
      have := cntN_mono (p := p) (q := q) (n := k) (fun c hc => h c (by omega))
      rw [h1, h2]; simp; omega
    · have ih := cntN_lt (p := p) (q := q) (n := n) k (by omega) (fun c hc => h c (by omega)) h1 h2
      by_cases hp : p n = true
      · rw [if_pos hp, if_pos (h n (by omega) hp)]; omega
      · rw [if_neg hp]; split <;> omega
theorem cntN_pos {p : Nat → Bool} : ∀ {n : Nat}, cntN p n ≠ 0 → ∃ k, k < n ∧ p k = true
  | 0, h => absurd rfl h
  | n + 1, h => by
    by_cases hp : p n = true
    · exact ⟨n, by omega, hp⟩
    · unfold cntN at h
      rw [if_neg hp] at h
      obtain ⟨k, hk, h1⟩ := cntN_pos (p := p) (n := n) (by omega)
      exact ⟨k, by omega, h1⟩
theorem cntN_zero {p : Nat → Bool} : ∀ {n : Nat}, (∀ c, c < n → p c = false) → cntN p n = 0
  | 0, _ => rfl
  | n + 1, h => by unfold cntN; rw [cntN_zero (fun c hc => h c (by omega)), h n (by omega)]; rfl
theorem cntN_add {p q r : Nat → Bool} : ∀ {n : Nat}, (∀ c, c < n → r c = (p c || q c)) → (∀ c, c < n → ¬ (p c = true ∧ q c = true)) → cntN r n = cntN p n + cntN q n
  | 0, _, _ => rfl
  | n + 1, h, hd => by
    unfold cntN
    rw [cntN_add (p := p) (q := q) (r := r) (n := n) (fun c hc => h c (by omega)) (fun c hc => hd c (by omega)), h n (by omega)]
    have := hd n (by omega)
    cases hp : p n <;> cases hq : q n <;> simp_all <;> omega
def uh (tab : Tab) (of : Nat) (held : Nat → Bool) : Nat := cntN (fun c => decide (ans tab c = wnt of) && !held c) (tC tab)
theorem bsI_g {tab : Tab} {of : Nat} {held : Nat → Bool} : ∀ t q, (bsI tab of held t).1 = some q → q < t ∧ gn tab (wnt of) held q ≠ 0
  | 0, q, h => by simp [bsI] at h
  | t + 1, q, h => by
    unfold bsI at h
    split at h
    · rename_i h1
      cases h
      exact ⟨by omega, fun h0 => h1.2 (Or.inr (Or.inl h0))⟩
    · have := bsI_g t q h
      exact ⟨by omega, this.2⟩
theorem bsI_le {tab : Tab} {of : Nat} {held : Nat → Bool} : ∀ t, (bsI tab of held t).2.1 ≤ tC tab ∧ (bsI tab of held t).2.2 ≤ tm tab
  | 0 => by simp [bsI]
  | t + 1 => by
    unfold bsI
    split
    · exact ⟨cntN_le _, cntN_le _⟩
    · exact bsI_le t
theorem uh_lt {tab : Tab} {of : Nat} {held : Nat → Bool} {t : Nat} (h : bst tab of held = some t) : uh tab of (hup tab t held) < uh tab of held := by
  have hg := (bsI_g (tT tab) t h).2
  obtain ⟨k, hk, h1⟩ := cntN_pos hg
  simp only [Bool.and_eq_true, Bool.not_eq_true', decide_eq_true_eq] at h1
  refine cntN_lt k hk (fun c hc h2 => ?_) (by simp [h1.1.1, h1.1.2]) (by simp [hup, h1.2])
  simp only [hup, Bool.and_eq_true, Bool.not_eq_true', decide_eq_true_eq, Bool.or_eq_false_iff] at h2 ⊢
  exact ⟨h2.1, h2.2.1⟩
theorem tka_go {tab : Tab} {of : Nat} {held : Nat → Bool} {f : Nat} (h : uh tab of held ≤ f) : tka tab of f held = (match bst tab of held with | none => [] | some t => t :: tka tab of (f - 1) (hup tab t held)) := by
  cases f with
  | zero =>
    cases hb : bst tab of held with
    | none => rfl
    | some t => have := uh_lt hb; omega
  | succ f =>
    cases hb : bst tab of held with
    | none => simp only [tka, hb]
    | some t => simp only [tka, hb]; rfl
theorem tka_len {tab : Tab} {of : Nat} : ∀ f held, (tka tab of f held).length ≤ uh tab of held
  | 0, _ => Nat.zero_le _
  | f + 1, held => by
    unfold tka
    cases hb : bst tab of held with
    | none => exact Nat.zero_le _
    | some t =>
      have h1 := uh_lt hb
      have h2 := tka_len (tab := tab) (of := of) f (hup tab t held)
      simp only [List.length_cons]
      omega
def avl (tab : Tab) (v c : Nat) : Bool := match ans tab c with
  | none => false
  | some w => decide (w < v)
theorem ruleU_len {tab : Tab} : ∀ v, v ≤ 6 → (ruleU tab v).length ≤ cntN (avl tab v) (tC tab)
  | 0, _ => Nat.zero_le _
  | v + 1, hv => by
    have ih := ruleU_len (tab := tab) v (by omega)
    have h2 := tka_len (tab := tab) (of := v) 400 (fun _ => false)
    have e : cntN (avl tab (v + 1)) (tC tab) = cntN (avl tab v) (tC tab) + uh tab v (fun _ => false) := by
      unfold uh
      apply cntN_add
      · intro c _
        unfold avl wnt
        rw [if_neg (by omega)]
        cases ans tab c with
        | none => simp
        | some w => simp; rw [Bool.eq_iff_iff]; simp; omega
      · intro c _
        unfold avl wnt
        rw [if_neg (by omega)]
        cases ans tab c with
        | none => simp
        | some w => simp; omega
    unfold ruleU
    rw [List.length_append, List.length_map, e]
    unfold ruleV
    omega
theorem ruleU_mono {tab : Tab} {v : Nat} : ∀ k, (ruleU tab v).length ≤ (ruleU tab (v + k)).length
  | 0 => Nat.le_refl _
  | k + 1 => by
    have := ruleU_mono (tab := tab) (v := v) k
    rw [← Nat.add_assoc, ruleU, List.length_append]
    omega
theorem rule_len {tab : Tab} (hk : tabOK tab) : (rule tab).length ≤ 400 := by
  have := ruleU_len (tab := tab) (tO tab) hk.2.2.2.2.2.1
  have h2 := cntN_le (p := avl tab (tO tab)) (tC tab)
  have h3 := hk.2.2.2.1
  unfold rule; omega
theorem offers_len {tab : Tab} (hk : tabOK tab) : (offers tab).length ≤ 400 := by
  have := tka_len (tab := tab) (of := 6) 400 (fun _ => false)
  have h2 := cntN_le (p := fun c => decide (ans tab c = wnt 6) && !(fun _ => false) c) (tC tab)
  have h3 := hk.2.2.2.1
  have h4 : uh tab 6 (fun _ => false) ≤ tC tab := h2
  unfold offers; omega
theorem uh0_le {tab : Tab} (hk : tabOK tab) {of : Nat} {held : Nat → Bool} : uh tab of held ≤ 400 := by
  have h2 := cntN_le (p := fun c => decide (ans tab c = wnt of) && !held c) (tC tab)
  have h3 := hk.2.2.2.1
  unfold uh; omega
/-- what the reference knows of the RULE and the OFFERED of a TABLE -/
def LY (iv : IV) (T : Nat) (tab : Tab) : Prop := iv 24 T = nI (rule tab).length ∧ (∀ k, k < (rule tab).length → iv 25 (400 * T + k) = nI ((rule tab).getD k (0, 0)).1 ∧ iv 26 (400 * T + k) = nI ((rule tab).getD k (0, 0)).2) ∧ iv 27 T = nI (offers tab).length ∧ ∀ k, k < (offers tab).length → iv 28 (400 * T + k) = nI ((offers tab).getD k 0)
def LD (iv : IV) (T : Nat) (tab : Tab) : Prop := ∃ b : Bool, iv 23 T = bI b ∧ (b = true → LY iv T tab) ∧ (b = false → iv 24 T = nI 0 ∧ iv 27 T = nI 0)
abbrev pLY (T : Nat) : Nat → Nat → Prop := fun lb j => (lb = 0 ∧ j = 42) ∨ (37 ≤ lb ∧ lb ≤ 41) ∨ ((lb = 23 ∨ lb = 24 ∨ lb = 27) ∧ j = T) ∨ ((lb = 25 ∨ lb = 26 ∨ lb = 28) ∧ 400 * T ≤ j ∧ j < 400 * T + 400)
