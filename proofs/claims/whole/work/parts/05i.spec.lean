abbrev pB (b : Nat) : Nat → Nat → Prop := fun lb j => pZ lb j ∨ (b ≤ lb ∧ lb < b + 40)
abbrev qB (b : Nat) : Nat → Nat → Prop := fun lb j => qZ lb j ∨ (b ≤ lb ∧ lb < b + 40)
theorem LI.frZ {iv iv' : IV} {jv jv' : JV} {b : Nat} {ins : List Col} (h : LI iv jv b ins) (hb : 1000 ≤ b) (hF : Fr iv iv' pZ) (hJ : FrJ jv jv' qZ) : LI iv' jv' b ins :=
  h.fr hF hJ (fun j => by simp only [pZ]; omega) (fun i hi => ⟨fun j => by simp only [pZ]; omega, fun j => by simp only [qZ]; omega, fun j => by simp only [qZ]; omega⟩)
theorem LI.frC {iv iv' : IV} {jv jv' : JV} {b c : Nat} {ins : List Col} (h : LI iv jv b ins) (hb : 1000 ≤ b) (hc : ∀ i, i < ins.length → c ≠ b + 10 + 2 * i ∧ c ≠ b + 10 + 2 * i + 1 ∧ c + 1 ≠ b + 10 + 2 * i) (hcb : c ≠ b) (hF : Fr iv iv' (pCo c)) (hJ : FrJ jv jv' (qCo c)) : LI iv' jv' b ins :=
  h.fr hF hJ (fun j => by simp only [pCo, pZ]; omega) (fun i hi => ⟨fun j => by have := hc i hi; simp only [pCo, pZ]; omega, fun j => by have := hc i hi; simp only [qCo, qZ]; omega, fun j => by have := hc i hi; simp only [qCo, qZ]; omega⟩)
theorem CV.nil {iv : IV} {jv : JV} {c : Nat} (h : iv c 1 = nI 0) : CV iv jv c [] := ⟨h, Nat.zero_le _, fun v hv => absurd hv (Nat.not_lt_zero v), fun w hw => by cases hw⟩
theorem LI.add {iv : IV} {jv : JV} {b : Nat} {ins : List Col} {c : Col} (h : LI iv jv b ins) (h5 : ins.length < 5) (h0 : jv (b + 10 + 2 * ins.length) 0 = enc c.1) (hw : wOK c.1) (hV : CV iv jv (b + 10 + 2 * ins.length) c.2) {v w : Int32} (hv : v = nI (ins.length + 1)) (hw2 : w = nI (csz (szs ins) * c.2.length)) : LI (up2 (up2 iv b 0 v) b 1 w) jv b (ins ++ [c]) := by
  subst hv; subst hw2
  have hF : Fr iv (up2 (up2 iv b 0 (nI (ins.length + 1))) b 1 (nI (csz (szs ins) * c.2.length))) (fun lb _ => lb = b) := Fr.up (Fr.up Fr.rf rfl) rfl
  refine ⟨by rw [List.length_append, up2_k (by decide)]; exact up2_s, by rw [szs_app, csz_app]; exact up2_s, by rw [List.length_append, List.length_singleton]; omega, fun i hi => ?_⟩
  by_cases hil : i < ins.length
  · rw [getD_app_lt hil]
    have := h.2.2.2 i hil
    exact ⟨this.1, this.2.1, this.2.2.fr (Q := fun _ _ => False) hF FrJ.rf (by omega) (fun v h => h)⟩
  · have : i = ins.length := by rw [List.length_append, List.length_singleton] at hi; omega
    subst this
    rw [getD_app_eq]
    exact ⟨h0, hw, hV.fr (Q := fun _ _ => False) hF FrJ.rf (by omega) (fun v h => h)⟩
/-! masks -/
def pop6 (b : Nat) : Nat := cntN (fun v => b.testBit v) 6
theorem pop6_s : ∀ b, b < 64 → ∀ v, v < 6 → b.testBit v = false → pop6 (b ||| 2 ^ v) = pop6 b + 1 ∧ pop6 b ≤ 5 := by decide +kernel
theorem bit_t0 : ∀ b, b < 64 → ∀ v, v < 6 → (((nI b >>> (nI v &&& 31)) &&& nI 1 = 0) ↔ b.testBit v = false) := by decide +kernel
theorem nI_and6 : ∀ a, a < 64 → ∀ b, b < 64 → nI a &&& nI b = nI (a &&& b) := by decide +kernel
theorem nI_not6 : ∀ a, a < 64 → ∀ v, v < 6 → nI a &&& (nI (0 ||| 2 ^ v) ^^^ -1) = nI (a &&& (63 - 2 ^ v)) := by decide +kernel
theorem mk_star : ∀ k, k ≤ 6 → ∀ v, v < k → Nat.testBit 63 v = Nat.testBit (2 ^ k - 1) v := by decide +kernel
theorem mk_bang : ∀ k, k ≤ 6 → ∀ u, u < k → ∀ v, v < k → Nat.testBit (63 - 2 ^ u) v = Nat.testBit (2 ^ k - 1 - 2 ^ u) v := by decide +kernel
theorem and63 : ∀ a, a < 64 → a &&& 63 = a := by decide +kernel
theorem and_lt {a b : Nat} (h : a < 64) : a &&& b < 64 := Nat.lt_of_le_of_lt Nat.and_le_left h
theorem rdBits_tH {B : Nat → Nat} {n : Nat} {vs : List Wd} {f b : Nat} {t : Tok} (h : (tH B vs t).1 ≠ 0) : rdBits B n vs (f + 1) b t = ((tH B vs t).1, 0, t) := by
  unfold rdBits
  by_cases hf : frF B t = 0
  · rw [if_neg (by simp [hf])]
    cases hx : ixW vs (wd B t) with
    | none => rw [tH_n hf hx]
    | some v => rw [tH_s hf hx] at h; exact absurd rfl h
  · rw [if_pos hf, tH_f hf]
theorem rdBits_tS {B : Nat → Nat} {n : Nat} {vs : List Wd} {f b v : Nat} {t : Tok} (h : frF B t = 0) (hx : ixW vs (wd B t) = some v) : rdBits B n vs (f + 1) b t = (if b.testBit v = true then (4, 0, t) else if tk (nx B n t) = 2 ∧ ts (nx B n t) = 47 then rdBits B n vs f (b ||| 2 ^ v) (nx B n (nx B n t)) else (0, b ||| 2 ^ v, nx B n t)) := by
  rw [rdBits, if_neg (by simp [h]), hx]
abbrev pRc (r k i : Nat) : Nat → Nat → Prop := fun lb j => pZ lb j ∨ (lb = r + 1 ∧ j = k * 5 + i)
/-- masks that tell alike -/
def mkE (k a b : Nat) : Prop := a < 64 ∧ ∀ v, v < k → a.testBit v = b.testBit v
