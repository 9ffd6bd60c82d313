theorem frow_m1 {tab : Tab} {c : Nat} (h : tR tab < 2147483648) : fnd (fun r => decide (nI r ≠ -1) && fit tab r c) (tR tab) = frow tab c := by
  have e : ∀ n, n ≤ tR tab → fnd (fun r => decide (nI r ≠ -1) && fit tab r c) n = fnd (fun r => fit tab r c) n := by
    intro n
    induction n with
    | zero => intro _; rfl
    | succ n ih =>
      intro hn
      rw [fnd_s, fnd_s, ih (by omega)]
      have : (decide (nI n ≠ -1) && fit tab n c) = fit tab n c := by rw [decide_eq_true (nI_ne_m1 (by omega)), Bool.true_and]
      rw [this]
  exact e _ (Nat.le_refl _)
/-- both registers cleared -/
theorem MSt.clr {iv : IV} {a : AS} (h : MSt iv a) : MSt (up2 (up2 iv 0 3 (nI 0)) 0 5 (-1)) (0, aY a, -1, aT a, aP a, aO a) := by
  have hF : Fr iv (up2 (up2 iv 0 3 (nI 0)) 0 5 (-1)) (fun lb j => lb = 0 ∧ (j = 3 ∨ j = 5)) := Fr.up (Fr.up Fr.rf ⟨rfl, Or.inl rfl⟩) ⟨rfl, Or.inr rfl⟩
  exact ⟨⟨rfl, Nat.zero_le _, fun k hk => absurd hk (Nat.not_lt_zero k), fun k hk => absurd hk (Nat.not_lt_zero k)⟩, rfl, h.2.2.1.fr hF (by decide) (fun lb j _ _ => by omega) (fun lb j _ _ => by omega), h.2.2.2.1.fr hF (by decide) (fun lb j _ _ => by omega), h.2.2.2.2.fr hF (by decide) (fun k => by omega)⟩
/-- what reading the TABLE T may change -/
abbrev pU2 (T : Nat) : Nat → Nat → Prop := fun lb j => (lb = 0 ∧ (j = 3 ∨ j = 5 ∨ (29 ≤ j ∧ j ≤ 36))) ∨ pT T lb j ∨ (lb = 15 ∧ 400 * T ≤ j ∧ j < 400 * T + 400)
theorem pT8 {T j : Nat} : pT T 8 j ↔ j = T := by simp [pT]
theorem pT9 {T j : Nat} : pT T 9 j ↔ j = T := by simp [pT]
theorem pT10 {T j : Nat} : pT T 10 j ↔ 6 * T ≤ j ∧ j < 6 * T + 6 := by simp [pT]
theorem pT11 {T j : Nat} : pT T 11 j ↔ 42 * T ≤ j ∧ j < 42 * T + 42 := by simp [pT]
theorem pT12 {T j : Nat} : pT T 12 j ↔ 336 * T ≤ j ∧ j < 336 * T + 336 := by simp [pT]
theorem pT13 {T j : Nat} : pT T 13 j ↔ 200 * T ≤ j ∧ j < 200 * T + 200 := by simp [pT]
theorem pT14 {T j : Nat} : pT T 14 j ↔ 40 * T ≤ j ∧ j < 40 * T + 40 := by simp [pT]
theorem pT15 {T j : Nat} : ¬ pT T 15 j := by simp [pT]
theorem pT_l {T lb j : Nat} (h : pT T lb j) : lb = 0 ∨ (8 ≤ lb ∧ lb ≤ 14) := by
  rcases h with h | h | h | h | h | h | h | h <;> omega
theorem pT_0 {T j : Nat} (h : pT T 0 j) : 29 ≤ j ∧ j ≤ 36 := by
  rcases h with h | h | h | h | h | h | h | h <;> omega
theorem TABL.frT {iv iv' : IV} {S T : Nat} {tab : Tab} {P : Nat → Nat → Prop} (hP : ∀ lb j, P lb j → lb = 0 ∨ pT T lb j ∨ lb = 15) (h : TABL iv S tab) (hST : S < T) (hF : Fr iv iv' P) : TABL iv' S tab := by
  have h5 := h.1.2.1
  have h40 := h.2.2.2.2.1
  have np : ∀ lb j, lb ≠ 0 → lb ≠ 15 → ¬ pT T lb j → ¬ P lb j := fun lb j h1 h2 h3 h4 => by
    rcases hP lb j h4 with h | h | h
    · exact h1 h
    · exact h3 h
    · exact h2 h
  exact ⟨h.1.fr hF (np _ _ (by decide) (by decide) (by rw [pT8]; omega)) (fun j h1 h2 => np _ _ (by decide) (by decide) (by rw [pT10]; omega)) (fun j h1 h2 => np _ _ (by decide) (by decide) (by rw [pT11]; omega)) (fun j h1 h2 => np _ _ (by decide) (by decide) (by rw [pT12]; omega)), h.2.1, h.2.2.1.fr hF (np _ _ (by decide) (by decide) (by rw [pT10]; omega)) (fun v hv => np _ _ (by decide) (by decide) (by rw [pT11]; omega)) (fun v hv j hj => np _ _ (by decide) (by decide) (by rw [pT12]; omega)), h.2.2.2.fr h.1.2.1 hF (np _ _ (by decide) (by decide) (by rw [pT9]; omega)) (fun j h1 h2 => np _ _ (by decide) (by decide) (by rw [pT13]; omega)) (fun j h1 h2 => np _ _ (by decide) (by decide) (by rw [pT14]; omega))⟩
theorem FT.frT {iv iv' : IV} {S T : Nat} {tab : Tab} (h : FT iv S tab) (hST : S < T) (hF : Fr iv iv' (pU2 T)) : FT iv' S tab := by
  have hC := h.2.1.2.2.2.1
  refine ⟨h.1.frT (fun lb j hp => ?_) hST hF, h.2.1, fun c hc => (hF 15 _ (fun hp => ?_)).trans (h.2.2 c hc)⟩
  · rcases hp with h | h | h
    · exact Or.inl h.1
    · exact Or.inr (Or.inl h)
    · exact Or.inr (Or.inr h.1)
  · rcases hp with h | h | h
    · omega
    · exact pT15 h
    · omega
theorem pU2_0 {T j : Nat} (h : j ≠ 3 ∧ j ≠ 5 ∧ (j < 29 ∨ 36 < j)) : ¬ pU2 T 0 j := fun hp => by
  rcases hp with h1 | h1 | h1
  · omega
  · have := pT_0 h1; omega
  · omega
theorem pU2_l {T lb j : Nat} (h0 : lb ≠ 0) (h : lb < 8 ∨ 15 < lb) : ¬ pU2 T lb j := fun hp => by
  rcases hp with h1 | h1 | h1
  · omega
  · have := pT_l h1; omega
  · omega
theorem pU2_M {T lb j : Nat} (hp : pU2 T lb j) : lb ≤ 42 := by
  rcases hp with h1 | h1 | h1
  · omega
  · have := pT_l h1; omega
  · omega
theorem mTb.frT {iv iv' : IV} {l : List Tab} {T : Nat} (h : mTb iv l) (hT : l.length ≤ T) (hF : Fr iv iv' (pU2 T)) : mTb iv' l := by
  have n28 : ∀ lb j, 23 ≤ lb → lb ≤ 28 → ¬ pU2 T lb j := fun lb j h1 h2 => pU2_l (by omega) (by omega)
  refine ⟨(hF 0 6 (pU2_0 (by decide))).trans h.1, h.2.1, fun S hS => ?_, fun S hS hS2 => ?_⟩
  · have := h.2.2.1 S hS
    exact ⟨this.1.frT (by omega) hF, this.2.1, this.2.2.fr this.1.2.1 hF (n28 _ _ (by decide) (by decide)) (n28 _ _ (by decide) (by decide)) (n28 _ _ (by decide) (by decide)) (fun lb j h _ _ => n28 lb j (by omega) (by omega))⟩
  · have := h.2.2.2 S hS hS2
    exact ⟨(hF 23 S (n28 _ _ (by decide) (by decide))).trans this.1, (hF 24 S (n28 _ _ (by decide) (by decide))).trans this.2.1, (hF 27 S (n28 _ _ (by decide) (by decide))).trans this.2.2⟩
theorem mTb.add {iv : IV} {l : List Tab} {tab : Tab} (h : mTb iv l) (hl : l.length < 6) (hT : FT iv l.length tab) (hW : tabW tab) : mTb (up2 iv 0 6 (nI (l.length + 1))) (l ++ [tab]) := by
  have hF : Fr iv (up2 iv 0 6 (nI (l.length + 1))) (fun lb _ => lb = 0) := Fr.up Fr.rf rfl
  have fut := h.2.2.2 l.length (Nat.le_refl _) hl
  refine ⟨by rw [List.length_append]; exact up2_s, by rw [List.length_append, List.length_singleton]; omega, fun S hS => ?_, fun S hS hS2 => ?_⟩
  · by_cases hSl : S < l.length
    · rw [getD_app_lt hSl]
      have := h.2.2.1 S hSl
      exact ⟨this.1.fr2 hF (fun lb j _ _ => by omega), this.2.1, this.2.2.fr this.1.2.1 hF (by decide) (by decide) (by decide) (fun lb j h _ _ => by omega)⟩
    · have : S = l.length := by rw [List.length_append, List.length_singleton] at hS; omega
      subst this
      rw [getD_app_eq]
      exact ⟨hT.fr2 hF (fun lb j _ _ => by omega), hW, false, fut.1, fun h => (by cases h), fun _ => fut.2⟩
  · rw [List.length_append, List.length_singleton] at hS
    exact h.2.2.2 S (by omega) hS2
/-- what reading the PROGRAM P may change -/
abbrev pU3 (P : Nat) : Nat → Nat → Prop := fun lb j => (lb = 0 ∧ (j = 3 ∨ j = 5 ∨ (29 ≤ j ∧ j ≤ 36))) ∨ pP P lb j ∨ (lb = 16 ∧ j = P)
theorem pP_l {P lb j : Nat} (h : pP P lb j) : (lb = 0 ∧ ((29 ≤ j ∧ j ≤ 36) ∨ j = 22)) ∨ (lb = 17 ∧ j = P) ∨ ((lb = 18 ∨ lb = 19) ∧ 41 * P ≤ j ∧ j < 41 * P + 41) ∨ ((lb = 20 ∨ lb = 21) ∧ 200 * P ≤ j ∧ j < 200 * P + 200) := by
  rcases h with h | h | h | h | h
  · left; omega
  · left; omega
  · exact Or.inr (Or.inl h)
  · exact Or.inr (Or.inr (Or.inl h))
  · exact Or.inr (Or.inr (Or.inr h))
theorem pU3_0 {P j : Nat} (h : j ≠ 3 ∧ j ≠ 5 ∧ j ≠ 22 ∧ (j < 29 ∨ 36 < j)) : ¬ pU3 P 0 j := fun hp => by
  rcases hp with h1 | h1 | h1
  · omega
  · rcases pP_l h1 with h2 | h2 | h2 | h2 <;> omega
  · omega
theorem pU3_l {P lb j : Nat} (h0 : lb ≠ 0) (h : lb < 16 ∨ 21 < lb) : ¬ pU3 P lb j := fun hp => by
  rcases hp with h1 | h1 | h1
  · omega
  · rcases pP_l h1 with h2 | h2 | h2 | h2 <;> omega
  · omega
theorem pU3_M {P lb j : Nat} (hp : pU3 P lb j) : lb ≤ 42 := by
  rcases hp with h1 | h1 | h1
  · omega
  · rcases pP_l h1 with h2 | h2 | h2 | h2 <;> omega
  · omega
theorem pU3_k {P S lb j : Nat} (hS : S < P) (hp : pU3 P lb j) (h : (lb = 16 ∧ j = S) ∨ (lb = 17 ∧ j = S) ∨ ((lb = 18 ∨ lb = 19) ∧ 41 * S ≤ j ∧ j < 41 * S + 41) ∨ ((lb = 20 ∨ lb = 21) ∧ 200 * S ≤ j ∧ j < 200 * S + 200)) : False := by
  rcases hp with h1 | h1 | h1
  · omega
  · rcases pP_l h1 with h2 | h2 | h2 | h2 <;> omega
  · omega
theorem mPg.frP {iv iv' : IV} {l : List Tab} {p : List (Nat × Prg)} {P : Nat} (h : mPg iv l p) (hP : p.length ≤ P) (hF : Fr iv iv' (pU3 P)) : mPg iv' l p := by
  refine ⟨(hF 0 7 (pU3_0 (by decide))).trans h.1, h.2.1, fun S hS => ?_⟩
  have := h.2.2 S hS
  exact ⟨(hF 16 S (fun hp => pU3_k (by omega) hp (Or.inl ⟨rfl, rfl⟩))).trans this.1, this.2.1, this.2.2.1.fr hF this.2.2.2 (fun hp => pU3_k (by omega) hp (Or.inr (Or.inl ⟨rfl, rfl⟩))) (fun lb j h1 h2 h3 hp => pU3_k (show S < P by omega) hp (Or.inr (Or.inr (Or.inl ⟨h1, h2, h3⟩)))) (fun lb j h1 h2 h3 hp => pU3_k (show S < P by omega) hp (Or.inr (Or.inr (Or.inr ⟨h1, h2, h3⟩)))), this.2.2.2⟩
theorem mPg.add {iv : IV} {l : List Tab} {p : List (Nat × Prg)} {T : Nat} {g : Prg} (h : mPg iv l p) (hp : p.length < 12) (hT : T < l.length) (h16 : iv 16 p.length = nI T) (hR : PRG iv p.length g) (hg : prgOK (l.getD T dT0) g) : mPg (up2 iv 0 7 (nI (p.length + 1))) l (p ++ [(T, g)]) := by
  have hF : Fr iv (up2 iv 0 7 (nI (p.length + 1))) (fun lb _ => lb = 0) := Fr.up Fr.rf rfl
  refine ⟨by rw [List.length_append]; exact up2_s, by rw [List.length_append, List.length_singleton]; omega, fun S hS => ?_⟩
  by_cases hSl : S < p.length
  · rw [getD_app_lt hSl]
    have := h.2.2 S hSl
    exact ⟨this.1, this.2.1, this.2.2.1.fr hF this.2.2.2 (by decide) (fun lb j h _ _ => by omega) (fun lb j h _ _ => by omega), this.2.2.2⟩
  · have : S = p.length := by rw [List.length_append, List.length_singleton] at hS; omega
    subst this
    rw [getD_app_eq]
    exact ⟨h16, hT, hR.fr hF hg (by decide) (fun lb j h _ _ => by omega) (fun lb j h _ _ => by omega), hg⟩
theorem mPg.fr_len {iv : IV} {l : List Tab} {tab : Tab} {p : List (Nat × Prg)} (h : mPg iv l p) : mPg iv (l ++ [tab]) p :=
  ⟨h.1, h.2.1, fun P hP => ⟨(h.2.2 P hP).1, by rw [List.length_append, List.length_singleton]; have := (h.2.2 P hP).2.1; omega, (h.2.2 P hP).2.2.1, by rw [getD_app_lt (h.2.2 P hP).2.1]; exact (h.2.2 P hP).2.2.2⟩⟩
