theorem and63' : ∀ a, a < 64 → 63 &&& a = a := by decide +kernel
abbrev pT2 (b : Nat) : Nat → Nat → Prop := fun lb j => (lb = 102 ∧ j = 1) ∨ lb = 103 ∨ lb = 104 ∨ lb = 105 ∨ (b ≤ lb ∧ lb < b + 40)
abbrev qT2 (b : Nat) : Nat → Nat → Prop := fun lb j => lb = 106 ∨ (lb = 103 ∧ j = 7) ∨ (b ≤ lb ∧ lb < b + 40)
theorem pB_T2 {b lb j : Nat} (h : pB b lb j) : pT2 b lb j := by
  rcases h with (h | h) | h
  · exact Or.inl h
  · exact Or.inr (Or.inl h.1)
  · exact Or.inr (Or.inr (Or.inr (Or.inr h)))
theorem qB_T2 {b lb j : Nat} (h : qB b lb j) : qT2 b lb j := by
  rcases h with h | h
  · exact Or.inr (Or.inl h)
  · exact Or.inr (Or.inr h)
theorem pRw_B {b k lb j : Nat} (h : pRw (b + 30) k lb j) : pB b lb j := by
  rcases h with h | h | h | h
  · exact Or.inl h
  · exact Or.inr (by omega)
  · exact Or.inr (by omega)
  · exact Or.inr (by omega)
theorem LI.frR {iv iv' : IV} {jv jv' : JV} {b k : Nat} {ins : List Col} (h : LI iv jv b ins) (hb : 1000 ≤ b) (hF : Fr iv iv' (pRw (b + 30) k)) (hJ : FrJ jv jv' qZ) : LI iv' jv' b ins :=
  h.fr hF hJ (fun j => by simp only [pRw, pZ]; omega) (fun i hi => ⟨fun j => by have := h.2.2.1; simp only [pRw, pZ]; omega, fun j => by simp only [qZ]; omega, fun j => by simp only [qZ]; omega⟩)
theorem CV.frR {iv iv' : IV} {jv jv' : JV} {b k : Nat} {outs : List Wd} (h : CV iv jv (b + 20) outs) (hb : 1000 ≤ b) (hF : Fr iv iv' (pRw (b + 30) k)) (hJ : FrJ jv jv' qZ) : CV iv' jv' (b + 20) outs :=
  h.fr hF hJ (by simp only [pRw, pZ]; omega) (fun v => by simp only [qZ]; omega)
abbrev pOc (r k : Nat) : Nat → Nat → Prop := fun lb j => pZ lb j ∨ (lb = r ∧ j = 0) ∨ (lb = r + 2 ∧ j = k)
theorem pOc_R {r k lb j : Nat} (h : pOc r k lb j) : pRw r k lb j := by
  rcases h with h | h | h
  · exact Or.inl h
  · exact Or.inr (Or.inl h)
  · exact Or.inr (Or.inr (Or.inr h))
theorem pRc_R {r k i lb j : Nat} (hi : i < 5) (h : pRc r k i lb j) : pRw r k lb j := by
  rcases h with h | h
  · exact Or.inl h
  · exact Or.inr (Or.inr (Or.inl ⟨h.1, by omega, by omega⟩))
theorem rcI_s1 {B : Nat → Nat} {n : Nat} {cols : Nat → List Wd} {t : Tok} {i : Nat} (h : (rcI B n cols i 0 t).1 = 0) : rcI B n cols (i + 1) 0 t = ((rdCell B n (cols i) 0 (rcI B n cols i 0 t).2.2).1, (rcI B n cols i 0 t).2.1 ++ [(rdCell B n (cols i) 0 (rcI B n cols i 0 t).2.2).2.1], (rdCell B n (cols i) 0 (rcI B n cols i 0 t).2.2).2.2) := by
  simp only [rcI, h]
