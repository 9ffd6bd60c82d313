theorem up2_id {α : Type} {f : Nat → Nat → α} {a k : Nat} {v : α} (h : f a k = v) : up2 f a k v = f := by
  funext b j; simp only [up2]; split
  · split
    · subst_vars; rfl
    · rfl
  · rfl
theorem up2_uu {α : Type} {f : Nat → Nat → α} {a k : Nat} {v w : α} : up2 (up2 f a k v) a k w = up2 f a k w := by
  funext b j; simp only [up2]; split
  · split <;> rfl
  · rfl
theorem one_bI {b : Bool} (h : b = true) : nI 1 = bI b := by rw [h]; rfl
theorem zero_bI {b : Bool} (h : b = false) : nI 0 = bI b := by rw [h]; rfl
/-- a number that is an index below n -/
def inI (t : Int32) (n : Nat) : Bool := decide (¬ t < 0 ∧ ¬ nI n ≤ t)
theorem inI_nI {j n : Nat} (hn : n < 2147483648) (hj : j < n) : inI (nI j) n = true := by
  simp only [inI, decide_eq_true_eq]
  exact ⟨nI_pos (by omega), nI_ge hj hn⟩
theorem inI_of {t : Int32} {n : Nat} (hn : n < 2147483648) (h : inI t n = true) : ∃ j, j < n ∧ t = nI j := by
  simp only [inI, decide_eq_true_eq] at h
  obtain ⟨h1, h2⟩ := h
  obtain ⟨j, hj, rfl⟩ := nI_of h1
  exact ⟨j, by rcases Nat.lt_or_ge j n with h | h; exact h; exact absurd (nI_le h (by omega)) h2, rfl⟩
def wsI (x : Int32) : Bool := decide ((¬ x < nI 97 ∧ x ≤ nI 122) ∨ (¬ x < nI 48 ∧ ¬ nI 57 < x))
theorem wsI_nI {c : Nat} (h : c < 2147483648) : wsI (nI c) = isWS c := by
  have e1 : nI c < nI 97 ↔ c < 97 := nI_ltI h (by decide)
  have e2 : nI c ≤ nI 122 ↔ c ≤ 122 := nI_leI h (by decide)
  have e3 : nI c < nI 48 ↔ c < 48 := nI_ltI h (by decide)
  have e4 : nI 57 < nI c ↔ 57 < c := nI_ltI (by decide) h
  simp only [wsI, isWS, e1, e2, e3, e4]
  rw [Bool.eq_iff_iff]
  simp only [decide_eq_true_eq, Bool.or_eq_true, Bool.and_eq_true]
  omega
theorem wsI_m1 : wsI (-1) = false := by decide
/-- a byte of the text; NONE behind its end -/
def bAt (B : Nat → Nat) (n k : Nat) : Int32 := if k < n then nI (B k) else -1
theorem bAt_eq {B : Nat → Nat} {n k c : Nat} (hB : ∀ k, k < n → B k < 256) (hc : c < 256) : bAt B n k = nI c ↔ k < n ∧ B k = c := by
  unfold bAt
  split
  · rename_i h
    rw [nI_eq (by have := hB k h; omega) (by omega)]
    simp [h]
  · rename_i h
    exact ⟨fun h2 => absurd h2.symm (nI_ne_m1 (by omega)), fun h2 => absurd h2.1 h⟩
theorem bAt_m1 {B : Nat → Nat} {n k : Nat} (hB : ∀ k, k < n → B k < 256) : bAt B n k = -1 ↔ n ≤ k := by
  unfold bAt
  split
  · rename_i h
    exact ⟨fun h2 => absurd h2 (nI_ne_m1 (by have := hB k h; omega)), fun h2 => by omega⟩
  · exact ⟨fun _ => by omega, fun _ => rfl⟩
theorem wsI_b {B : Nat → Nat} {n k : Nat} (hB : ∀ k, k < n → B k < 256) : wsI (bAt B n k) = (decide (k < n) && isWS (B k)) := by
  unfold bAt
  split
  · rename_i h
    rw [wsI_nI (by have := hB k h; omega)]; simp [h]
  · rename_i h
    rw [wsI_m1]; simp [h]
abbrev pS : Nat → Nat → Prop := fun lb j => lb = 0 ∧ (j = 29 ∨ j = 31 ∨ j = 32 ∨ j = 33 ∨ j = 34)
/-- the registers of the reference's reader hold the TOKEN t -/
def TR (iv : IV) (t : Tok) : Prop := iv 0 29 = nI (te t) ∧ iv 0 31 = nI (tk t) ∧ iv 0 32 = nI (ts t) ∧ iv 0 33 = nI (tb t) ∧ iv 0 34 = nI (te t)
/-- the text that the reference reads -/
def TX (iv : IV) (B : Nat → Nat) (n : Nat) : Prop := n ≤ 1000 ∧ iv 0 30 = nI n ∧ (∀ k, k < n → iv 1 k = nI (B k)) ∧ ∀ k, k < n → B k < 256
theorem TX.fr {iv iv' : IV} {B : Nat → Nat} {n : Nat} {P : Nat → Nat → Prop} (h : TX iv B n) (hF : Fr iv iv' P) (h1 : ¬ P 0 30) (h2 : ∀ k, ¬ P 1 k) : TX iv' B n :=
  ⟨h.1, (hF 0 30 h1).trans h.2.1, fun k hk => (hF 1 k (h2 k)).trans (h.2.2.1 k hk), h.2.2.2⟩
theorem tok_end {B : Nat → Nat} {n b : Nat} (h : n ≤ b) : tokB B n b = (0, 0, b, b) := if_pos h
theorem tok_word {B : Nat → Nat} {n b : Nat} (h : b < n) (hw : isWS (B b) = true) : tokB B n b = (1, 0, b, rowE (fun i => isWS (B i)) n b) := by
  rw [tokB, if_neg (by omega), if_pos hw]
theorem tok_arrow {B : Nat → Nat} {n b : Nat} (h : b < n) (hw : isWS (B b) = false) (h1 : B b = 45) (h2 : b + 1 < n) (h3 : B (b + 1) = 62) : tokB B n b = (2, 256, b, b + 2) := by
  rw [tokB, if_neg (by omega), if_neg (by simp [hw]), if_pos ⟨h1, h2, h3⟩]
theorem tok_sign {B : Nat → Nat} {n b : Nat} (h : b < n) (hw : isWS (B b) = false) (h1 : B b = 42 ∨ B b = 47 ∨ B b = 33 ∨ B b = 59 ∨ B b = 58) : tokB B n b = (2, B b, b, b + 1) := by
  rw [tokB, if_neg (by omega), if_neg (by simp [hw]), if_neg (by omega), if_pos h1]
theorem tok_bad {B : Nat → Nat} {n b : Nat} (h : b < n) (hw : isWS (B b) = false) (h1 : ¬ (B b = 42 ∨ B b = 47 ∨ B b = 33 ∨ B b = 59 ∨ B b = 58)) (h2 : ¬ (B b = 45 ∧ b + 1 < n ∧ B (b + 1) = 62)) : tokB B n b = (3, B b, b, b + 1) := by
  rw [tokB, if_neg (by omega), if_neg (by simp [hw]), if_neg h2, if_neg h1]
