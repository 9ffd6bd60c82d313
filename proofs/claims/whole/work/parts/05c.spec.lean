def sgk (b : Nat) : Nat := if b = 42 then 8 else if b = 47 then 9 else if b = 33 then 10 else if b = 59 then 11 else if b = 58 then 12 else 16
theorem sgk_s {b : Nat} (h : b ≠ 256) : sgk b = skd b := by unfold skd; rw [if_neg h]; rfl
theorem sgk_16 {b : Nat} (h : ¬ (b = 42 ∨ b = 47 ∨ b = 33 ∨ b = 59 ∨ b = 58)) : sgk b = 16 := by
  unfold sgk; rw [if_neg (by omega), if_neg (by omega), if_neg (by omega), if_neg (by omega), if_neg (by omega)]
theorem sgk_le (b : Nat) : sgk b ≤ 16 := by unfold sgk; split <;> (try split) <;> (try split) <;> (try split) <;> (try split) <;> omega
def wr (B : Nat → Nat) (p e : Nat) : Wd := (List.range (e - p)).map (fun i => B (p + i))
theorem wr_s {B : Nat → Nat} {p e : Nat} (h : p ≤ e) : wr B p (e + 1) = wr B p e ++ [B e] := by
  unfold wr
  rw [show e + 1 - p = (e - p) + 1 by omega, List.range_succ, List.map_append]
  simp only [List.map_cons, List.map_nil]
  rw [show p + (e - p) = e by omega]
theorem wr_0 {B : Nat → Nat} {p : Nat} : wr B p p = [] := by unfold wr; rw [Nat.sub_self]; rfl
theorem wr_nz {B : Nat → Nat} {p e : Nat} (h : ∀ j, p ≤ j → j < e → isWS (B j) = true) : nz (wr B p e) := fun b hb => by
  unfold wr at hb
  obtain ⟨i, hi, rfl⟩ := List.mem_map.mp hb
  have := h (p + i) (by omega) (by have := List.mem_range.mp hi; omega)
  simp only [isWS, Bool.or_eq_true, Bool.and_eq_true, decide_eq_true_eq] at this
  omega
theorem wr_len {B : Nat → Nat} {p e : Nat} : (wr B p e).length = e - p := by simp [wr]
def TXc (iv : IV) (B : Nat → Nat) (n : Nat) : Prop := n ≤ 1000 ∧ (∀ k, k < n → iv 101 k = sbI (B k)) ∧ ∀ k, k < n → B k < 256
theorem TXc.fr {iv iv' : IV} {B : Nat → Nat} {n : Nat} {P : Nat → Nat → Prop} (h : TXc iv B n) (hF : Fr iv iv' P) (h1 : ∀ k, ¬ P 101 k) : TXc iv' B n :=
  ⟨h.1, fun k hk => (hF _ _ (h1 k)).trans (h.2.1 k hk), h.2.2⟩
theorem sW_kw : sW 1 = sW 20 ∧ sW 2 = sW 19 ∧ sW 3 = sW 21 ∧ sW 4 = sW 22 ∧ sW 5 = sW 23 ∧ sW 6 = sW 24 ∧ sW 7 = sW 25 := by decide +kernel
theorem sW_e : ∀ i, i < 8 → 1 ≤ i → (sW i).length ≤ 8 ∧ (sW i).all (fun b => decide (1 ≤ b) && decide (b < 256)) = true := by decide +kernel
theorem sW_enc {i : Nat} (h : i < 8) (h1 : 1 ≤ i) : (sW i).length ≤ 8 ∧ nz (sW i) := ⟨(sW_e i h h1).1, fun b hb => by
  have := List.all_eq_true.mp (sW_e i h h1).2 b hb
  simpa using this⟩
theorem LXT.add {iv iv' : IV} {jv jv' : JV} {B : Nat → Nat} {n k : Nat} (h : LXT iv jv B n k) (h4 : ∀ j, iv' 104 j = up2 iv 104 k (nI (kdT B (tkN B n k))) 104 j) (h5 : ∀ j, iv' 105 j = up2 iv 105 k (nI (tb (tkN B n k))) 105 j) (h6 : ∀ j, jv' 106 j = up2 jv 106 k (encT B (tkN B n k)) 106 j) : LXT iv' jv' B n (k + 1) := fun j hj => by
  rw [h4, h5, h6]
  by_cases hjk : j = k
  · subst hjk; rw [up2_s, up2_s, up2_s]; exact ⟨rfl, rfl, rfl⟩
  · rw [up2_k hjk, up2_k hjk, up2_k hjk]; exact h j (by omega)
abbrev pL : Nat → Nat → Prop := fun lb _ => lb = 103 ∨ lb = 104 ∨ lb = 105
abbrev qL' : Nat → Nat → Prop := fun lb j => lb = 106 ∨ (lb = 103 ∧ j = 7)
theorem tokB_nb {B : Nat → Nat} {n p : Nat} (h : isBl (B p) = false) : tokAt B n p = tokB B n p := by rw [tokAt, rowE_stop (q := fun i => isBl (B i)) h]
theorem tokAt_bl {B : Nat → Nat} {n p : Nat} (hp : p < n) (h : isBl (B p) = true) : tokAt B n p = tokAt B n (p + 1) := by rw [tokAt, tokAt, rowE_go (q := fun i => isBl (B i)) hp h]
theorem ws_nb {c : Nat} (h : isWS c = true) : isBl c = false := by
  simp only [isWS, Bool.or_eq_true, Bool.and_eq_true, decide_eq_true_eq] at h
  simp only [isBl, Bool.or_eq_false_iff, decide_eq_false_iff_not]
  omega
