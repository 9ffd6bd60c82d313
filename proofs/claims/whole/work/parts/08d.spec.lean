theorem cntN_ex {p : Nat → Bool} {i : Nat} : ∀ n, i < cntN p n → ∃ d, d < n ∧ p d = true ∧ cntN p d = i
  | 0, h => absurd h (Nat.not_lt_zero i)
  | n + 1, h => by
    by_cases h1 : i < cntN p n
    · obtain ⟨d, h2, h3⟩ := cntN_ex n h1; exact ⟨d, by omega, h3⟩
    · rw [cntN] at h
      by_cases hp : p n = true
      · rw [if_pos hp] at h; exact ⟨n, by omega, hp, by omega⟩
      · rw [if_neg hp] at h; omega
theorem hole_ex {tab : Tab} {i : Nat} (h : i < nHo tab) : ∃ d, d < tC tab ∧ frow tab d = none ∧ cntN (fun c => (frow tab c).isNone) d = i ∧ nthH tab i = some d := by
  obtain ⟨d, h1, h2, h3⟩ := cntN_ex _ h
  have h4 := Option.isNone_iff_eq_none.mp h2
  exact ⟨d, h1, h4, h3, nthH_eq h1 h4 h3⟩
theorem qRow_mem {tab : Tab} {a : Nat} {x : Nat × Nat × Nat} : ∀ b, b ≤ tR tab → x ∈ qRow tab a b → x.1 = a ∧ a < x.2.1 ∧ x.2.1 < tR tab ∧ qAt tab x.1 x.2.1 = some x.2.2
  | 0, _, h => by cases h
  | b + 1, hb, h => by
    rw [qRow] at h
    rcases List.mem_append.mp h with h | h
    · exact qRow_mem b (by omega) h
    · split at h
      · rename_i hab
        split at h
        · cases h
        · rename_i c hc
          rw [List.mem_singleton] at h
          subst h
          exact ⟨rfl, hab, by show b < tR tab; omega, hc⟩
      · cases h
theorem qUp_mem {tab : Tab} {x : Nat × Nat × Nat} : ∀ a, x ∈ qUp tab a → x.1 < x.2.1 ∧ x.2.1 < tR tab ∧ qAt tab x.1 x.2.1 = some x.2.2
  | 0, h => by cases h
  | a + 1, h => by
    rw [qUp] at h
    rcases List.mem_append.mp h with h | h
    · exact qUp_mem a h
    · have := qRow_mem (tR tab) (Nat.le_refl _) h
      exact ⟨by omega, this.2.2.1, this.2.2.2⟩
theorem qL_mem {tab : Tab} {i : Nat} (h : i < (qL tab).length) : ((qL tab).getD i (0, 0, 0)).1 < ((qL tab).getD i (0, 0, 0)).2.1 ∧ ((qL tab).getD i (0, 0, 0)).2.1 < tR tab ∧ qBo tab ((qL tab).getD i (0, 0, 0)).1 ((qL tab).getD i (0, 0, 0)).2.1 = some ((qL tab).getD i (0, 0, 0)).2.2 := by
  have := qUp_mem (tR tab) (mem_getD' (d := ((0 : Nat), (0 : Nat), (0 : Nat))) h)
  refine ⟨this.1, this.2.1, ?_⟩
  have h2 := this.2.2
  unfold qAt at h2
  split at h2
  · cases h2
  · exact h2
theorem qL_l3 {tab : Tab} (hk : tabOK tab) : (qL tab).length ≤ tR tab * (tR tab - 1) / 2 := by
  have h1 := qUp_l2 (tab := tab) (tR tab)
  rw [tri_R _ hk.2.2.2.2.2.2.1] at h1
  exact h1
theorem tk_r {tab : Tab} {i : Nat} (h : i < (rule tab).length) : ((rule tab).map (fun x => x.1) ++ offers tab).getD i 0 = ((rule tab).getD i (0, 0)).1 := by
  rw [List.getD_eq_getElem?_getD, List.getElem?_append_left (by rw [List.length_map]; exact h), List.getElem?_map, List.getD_eq_getElem?_getD, List.getElem?_eq_getElem h]; rfl
theorem tk_o {tab : Tab} {i : Nat} (h : i < (offers tab).length) : ((rule tab).map (fun x => x.1) ++ offers tab).getD ((rule tab).length + i) 0 = (offers tab).getD i 0 := by
  rw [List.getD_eq_getElem?_getD, List.getElem?_append_right (by rw [List.length_map]; omega), List.length_map, Nat.add_sub_cancel_left, List.getD_eq_getElem?_getD]
theorem only_r {tab : Tab} (hk : tabOK tab) {i : Nat} {y : Int32} (h : i < (rule tab).length) (hy : onR y (AV tab ((rule tab).getD i (0, 0)).1)) : y = nI ((rule tab).getD i (0, 0)).2 := by
  have h1 := ruleU_to (tO tab) _ (mem_getD' (d := ((0 : Nat), (0 : Nat))) h)
  have h2 := (rule_lt h).2
  have h3 := hk.2.2.2.2.2.1
  have := (onR_eq hk hy (of := ((rule tab).getD i (0, 0)).2) (by omega)).mpr h1
  rw [this]; unfold wnt; rw [if_neg (by omega)]; rfl
theorem tk_len {tab : Tab} (hk : tabOK tab) : (rule tab).length + (offers tab).length ≤ tC tab := by
  have h1 := tk_room6 hk
  have h2 := tka_len (tab := tab) (of := 6) 400 (fun _ => false)
  unfold offers; omega
