theorem prd_32 {f : Nat → Nat} : ∀ {m : Nat}, (∀ i, i < m → 2 ≤ f i) → prd (fun i => f i + 1) m * 2 ^ m ≤ 3 ^ m * prd f m
  | 0, _ => Nat.le_refl _
  | m + 1, h => by
    have ih := prd_32 (f := f) (m := m) (fun i hi => h i (by omega))
    have hm := h m (by omega)
    simp only [prd, Nat.pow_succ]
    have e1 : prd (fun i => f i + 1) m * (f m + 1) * (2 ^ m * 2) = (prd (fun i => f i + 1) m * 2 ^ m) * ((f m + 1) * 2) := by
      simp only [Nat.mul_comm, Nat.mul_left_comm, Nat.mul_assoc]
    have e2 : 3 ^ m * 3 * (prd f m * f m) = (3 ^ m * prd f m) * (3 * f m) := by
      simp only [Nat.mul_comm, Nat.mul_left_comm, Nat.mul_assoc]
    rw [e1, e2]
    exact Nat.mul_le_mul ih (by omega)
theorem tT_le {tab : Tab} (hk : tabOK tab) : tT tab ≤ 8000 := by
  have h := prd_32 (f := tf tab) (m := tm tab) (fun i hi => (hk.2.2.1 i hi).1)
  have hC : prd (tf tab) (tm tab) ≤ 400 := hk.2.2.2.1
  have h5 := hk.2.1
  show prd (fun i => tf tab i + 1) (tm tab) ≤ 8000
  generalize prd (fun i => tf tab i + 1) (tm tab) = x at *
  generalize prd (tf tab) (tm tab) = y at *
  rcases (show tm tab = 0 ∨ tm tab = 1 ∨ tm tab = 2 ∨ tm tab = 3 ∨ tm tab = 4 ∨ tm tab = 5 by omega) with e | e | e | e | e | e <;> rw [e] at h <;> simp at h <;> omega
theorem oI_inj {a b : Option Nat} (ha : ∀ k, a = some k → k < 2147483648) (hb : ∀ k, b = some k → k < 2147483648) : oI a = oI b ↔ a = b := by
  cases a with
  | none =>
    cases b with
    | none => simp
    | some k => exact ⟨fun h => absurd h.symm (nI_ne_m1 (hb k rfl)), fun h => by cases h⟩
  | some j =>
    cases b with
    | none => exact ⟨fun h => absurd h (nI_ne_m1 (ha j rfl)), fun h => by cases h⟩
    | some k => simp only [oI, nI_eq (ha j rfl) (hb k rfl), Option.some.injEq]
/-- the reference has sorted the TERMS of a TABLE -/
def SRT (iv : IV) (tab : Tab) : Prop := (∀ c, c < tC tab → iv 40 c = oI (ans tab c)) ∧ (∀ c i, c < tC tab → i < tm tab → iv 38 (5 * c + i) = nI (vOf (tf tab) (tm tab) c i)) ∧ ∀ t, t < tT tab → iv 39 t = toI tab t (tC tab)
def HLD (iv : IV) (tab : Tab) (held : Nat → Bool) : Prop := ∀ c, c < tC tab → iv 41 c = bI (held c)
def TLS (iv : IV) (tab : Tab) (t : Nat) : Prop := ∀ i, i < tm tab → iv 37 i = oI (tAt tab t i)
theorem INS.f2 {iv iv' : IV} {T : Nat} {tab : Tab} {P : Nat → Nat → Prop} (h : TABL iv T tab) (hF : Fr iv iv' P) (hP : ∀ lb j, P lb j → 15 ≤ lb ∨ lb = 0) : TABL iv' T tab :=
  have np : ∀ lb j, lb ≠ 0 → lb < 15 → ¬ P lb j := fun lb j h1 h2 h => by rcases hP lb j h with h | h <;> omega
  ⟨h.1.fr hF (np _ _ (by decide) (by decide)) (fun _ _ _ => np _ _ (by decide) (by decide)) (fun _ _ _ => np _ _ (by decide) (by decide)) (fun _ _ _ => np _ _ (by decide) (by decide)), h.2.1, h.2.2.1.fr hF (np _ _ (by decide) (by decide)) (fun _ _ => np _ _ (by decide) (by decide)) (fun _ _ _ _ => np _ _ (by decide) (by decide)), h.2.2.2.fr h.1.2.1 hF (np _ _ (by decide) (by decide)) (fun _ _ _ => np _ _ (by decide) (by decide)) (fun _ _ _ => np _ _ (by decide) (by decide))⟩
theorem FT.fr {iv iv' : IV} {T : Nat} {tab : Tab} {P : Nat → Nat → Prop} (h : FT iv T tab) (hF : Fr iv iv' P) (hP : ∀ lb j, P lb j → 16 ≤ lb ∨ lb = 0) : FT iv' T tab :=
  ⟨INS.f2 h.1 hF (fun lb j hp => by rcases hP lb j hp with h | h <;> omega), h.2.1, fun c hc => (hF 15 _ (fun hp => by rcases hP 15 _ hp with h | h <;> omega)).trans (h.2.2 c hc)⟩
theorem ans_s {tab : Tab} (hk : tabOK tab) {c : Nat} : ∀ k, ans tab c = some k → k < 2147483648 := fun k h => by have := ans_lt hk h; have := hk.2.2.2.2.2.1; omega
theorem tAt_s {tab : Tab} (hk : tabOK tab) {t i : Nat} (hi : i < tm tab) : ∀ k, tAt tab t i = some k → k < 2147483648 := fun k h => by have := tAt_lt hk hi h; have := (hk.2.2.1 i hi).2; omega
theorem toI_r {tab : Tab} (hk : tabOK tab) {t : Nat} : ∀ c, toI tab t c = -1 ∨ ∃ v, v ≤ 6 ∧ toI tab t c = nI v
  | 0 => Or.inr ⟨6, Nat.le_refl _, rfl⟩
  | c + 1 => by
    have ih := toI_r hk (t := t) c
    unfold toI
    split
    · exact ih
    · rename_i v hv
      have h1 := ans_lt hk hv
      have h2 := hk.2.2.2.2.2.1
      split
      · split
        · exact Or.inr ⟨v, by omega, rfl⟩
        · exact Or.inl rfl
      · exact ih
