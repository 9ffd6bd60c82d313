/-! ===== the mathematics of texts: bytes B 0 .. B (n - 1), TOKENS ===== -/
def isWS (c : Nat) : Bool := (decide (97 ≤ c) && decide (c ≤ 122)) || (decide (48 ≤ c) && decide (c ≤ 57))
def isBl (c : Nat) : Bool := decide (c = 32) || decide (c = 10)
/-- how many from p on (of f at most) have the property -/
def cnt (q : Nat → Bool) : Nat → Nat → Nat
  | 0, _ => 0
  | f + 1, p => if q p then cnt q f (p + 1) + 1 else 0
theorem cnt_le (q : Nat → Bool) : ∀ f p, cnt q f p ≤ f
  | 0, _ => Nat.le_refl 0
  | f + 1, p => by
    have := cnt_le q f (p + 1)
    simp only [cnt]
    split <;> omega
/-- the end of the row of signs with the property, from p on, below n -/
def rowE (q : Nat → Bool) (n p : Nat) : Nat := p + cnt q (n - p) p
theorem rowE_go {q : Nat → Bool} {n p : Nat} (hp : p < n) (h : q p = true) : rowE q n p = rowE q n (p + 1) := by
  obtain ⟨f, hf⟩ : ∃ f, n - p = f + 1 := ⟨n - p - 1, by omega⟩
  have h2 : n - (p + 1) = f := by omega
  simp only [rowE, hf, h2, cnt, h, if_true]
  omega
theorem rowE_stop {q : Nat → Bool} {n p : Nat} (h : q p = false) : rowE q n p = p := by
  simp only [rowE]
  cases n - p with
  | zero => rfl
  | succ f => simp [cnt, h]
theorem rowE_end {q : Nat → Bool} {n p : Nat} (h : n ≤ p) : rowE q n p = p := by
  simp only [rowE, show n - p = 0 by omega, cnt, Nat.add_zero]
theorem rowE_ge (q : Nat → Bool) (n p : Nat) : p ≤ rowE q n p := Nat.le_add_right _ _
theorem rowE_le {q : Nat → Bool} {n p : Nat} (h : p ≤ n) : rowE q n p ≤ n := by
  have := cnt_le q (n - p) p
  simp only [rowE]; omega
theorem rowE_out {q : Nat → Bool} {n p : Nat} (hp : p ≤ n) (h : rowE q n p < n) : q (rowE q n p) = false := by
  generalize hm : n - p = m
  induction m generalizing p with
  | zero => rw [rowE_end (by omega)] at h; omega
  | succ m ih =>
    by_cases hq : q p = true
    · rw [rowE_go (by omega) hq] at h ⊢
      exact ih (by omega) h (by omega)
    · have hq : q p = false := by simpa using hq
      rw [rowE_stop hq]; exact hq
theorem rowE_in {q : Nat → Bool} {n p : Nat} : ∀ {i : Nat}, p ≤ i → i < rowE q n p → q i = true := by
  generalize hm : n - p = m
  induction m generalizing p with
  | zero => intro i h1 h2; rw [rowE_end (by omega)] at h2; omega
  | succ m ih =>
    intro i h1 h2
    by_cases hq : q p = true
    · by_cases hi : i = p
      · subst hi; exact hq
      · rw [rowE_go (by omega) hq] at h2
        exact ih (by omega) (by omega) h2
    · have hq : q p = false := by simpa using hq
      rw [rowE_stop hq] at h2; omega
abbrev Tok : Type := Nat × Nat × Nat × Nat
def tk (t : Tok) : Nat := t.1
def ts (t : Tok) : Nat := t.2.1
def tb (t : Tok) : Nat := t.2.2.1
def te (t : Tok) : Nat := t.2.2.2
/-- the next TOKEN from p on: its kind (0 the end, 1 a word, 2 a sign, 3 none), sign (256: the arrow), first byte, the byte behind it -/
def tokB (B : Nat → Nat) (n b : Nat) : Tok :=
  if n ≤ b then (0, 0, b, b)
  else if isWS (B b) then (1, 0, b, rowE (fun i => isWS (B i)) n b)
  else if B b = 45 ∧ b + 1 < n ∧ B (b + 1) = 62 then (2, 256, b, b + 2)
  else (if B b = 42 ∨ B b = 47 ∨ B b = 33 ∨ B b = 59 ∨ B b = 58 then 2 else 3, B b, b, b + 1)
def tokAt (B : Nat → Nat) (n p : Nat) : Tok := tokB B n (rowE (fun i => isBl (B i)) n p)
/-- t is a TOKEN of the text -/
def TV (B : Nat → Nat) (n : Nat) (t : Tok) : Prop := ∃ p, p ≤ n ∧ t = tokAt B n p
theorem tokB_b (B : Nat → Nat) (n b : Nat) : tb (tokB B n b) = b := by
  unfold tokB; split <;> (try split) <;> (try split) <;> rfl
theorem tokB_e {B : Nat → Nat} {n b : Nat} (h : b ≤ n) : b ≤ te (tokB B n b) ∧ te (tokB B n b) ≤ n ∧ (tk (tokB B n b) ≠ 0 → b < te (tokB B n b)) ∧ (tk (tokB B n b) = 0 → b = n ∧ te (tokB B n b) = n) ∧ tk (tokB B n b) ≤ 3 ∧ (tk (tokB B n b) = 1 → ∀ i, b ≤ i → i < te (tokB B n b) → isWS (B i) = true) := by
  unfold tokB
  split
  · simp [tk, te]; omega
  · split
    · rename_i h1 h2
      have e1 := rowE_ge (fun i => isWS (B i)) n (b + 1)
      have e2 := rowE_le (q := fun i => isWS (B i)) (n := n) (p := b) h
      have e3 : rowE (fun i => isWS (B i)) n b = rowE (fun i => isWS (B i)) n (b + 1) := rowE_go (by omega) h2
      refine ⟨by simp only [te]; omega, by simp only [te]; omega, fun _ => by simp only [te]; omega, fun h => by simp [tk] at h, by simp [tk], fun _ i h1 h2 => ?_⟩
      simp only [te] at h2
      exact rowE_in (q := fun i => isWS (B i)) h1 h2
    · split
      · simp [tk, te]; omega
      · simp only [tk, te]
        refine ⟨by omega, by omega, fun _ => by omega, fun h => ?_, ?_, fun h => ?_⟩
        · split at h <;> omega
        · split <;> omega
        · split at h <;> omega
theorem TV_b {B : Nat → Nat} {n : Nat} {t : Tok} (h : TV B n t) : tb t ≤ te t ∧ te t ≤ n ∧ (tk t ≠ 0 → tb t < te t) ∧ (tk t = 0 → tb t = n ∧ te t = n) ∧ tk t ≤ 3 ∧ (tk t = 1 → ∀ i, tb t ≤ i → i < te t → isWS (B i) = true) := by
  obtain ⟨p, hp, rfl⟩ := h
  have h1 : rowE (fun i => isBl (B i)) n p ≤ n := rowE_le hp
  have h2 := tokB_e (B := B) h1
  rw [tokAt, tokB_b]
  exact h2
/-- the TOKEN behind t -/
def nx (B : Nat → Nat) (n : Nat) (t : Tok) : Tok := tokAt B n (te t)
theorem TV_at {B : Nat → Nat} {n p : Nat} (h : p ≤ n) : TV B n (tokAt B n p) := ⟨p, h, rfl⟩
theorem TV_nx {B : Nat → Nat} {n : Nat} {t : Tok} (h : TV B n t) : TV B n (nx B n t) := ⟨te t, (TV_b h).2.1, rfl⟩
theorem nx_ge {B : Nat → Nat} {n : Nat} {t : Tok} : te t ≤ tb (nx B n t) := by
  rw [nx, tokAt, tokB_b]; exact rowE_ge _ _ _
theorem ts_le {B : Nat → Nat} {n : Nat} {t : Tok} (hB : ∀ k, k < n → B k < 256) (h : TV B n t) : ts t ≤ 256 := by
  obtain ⟨p, hp, rfl⟩ := h
  unfold tokAt
  have h1 : rowE (fun i => isBl (B i)) n p ≤ n := rowE_le hp
  generalize rowE (fun i => isBl (B i)) n p = b at h1
  unfold tokB
  split
  · simp [ts]
  · split
    · simp [ts]
    · split
      · simp [ts]
      · simp only [ts]; have := hB b (by omega); omega
/-- what may change -/
def Fr (iv iv' : IV) (P : Nat → Nat → Prop) : Prop := ∀ lb j, ¬ P lb j → iv' lb j = iv lb j
theorem Fr.rf {iv : IV} {P : Nat → Nat → Prop} : Fr iv iv P := fun _ _ _ => rfl
theorem Fr.tr {a b d : IV} {P : Nat → Nat → Prop} (h1 : Fr a b P) (h2 : Fr b d P) : Fr a d P := fun lb j h => (h2 lb j h).trans (h1 lb j h)
theorem Fr.mono {a b : IV} {P P' : Nat → Nat → Prop} (h1 : Fr a b P) (h : ∀ lb j, P lb j → P' lb j) : Fr a b P' := fun lb j hn => h1 lb j (fun hp => hn (h lb j hp))
theorem Fr.up {a b : IV} {P : Nat → Nat → Prop} {lb k : Nat} {v : Int32} (h1 : Fr a b P) (h : P lb k) : Fr a (up2 b lb k v) P := fun l2 j hn => by
  by_cases e1 : l2 = lb
  · subst e1
    by_cases e2 : j = k
    · subst e2; exact absurd h hn
    · rw [up2_k e2]; exact h1 l2 j hn
  · rw [up2_l e1]; exact h1 l2 j hn
