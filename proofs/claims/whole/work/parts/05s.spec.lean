theorem cols_le {ins : List Col} (h : insOK ins) (i : Nat) : (colsOf ins i).length ≤ 6 := by
  by_cases hi : i < ins.length
  · exact (h.2.1 i hi).2
  · unfold colsOf
    rw [List.getD_eq_getElem?_getD, List.getElem?_eq_none (by omega)]
    exact Nat.zero_le _
theorem t63 : ∀ v, v < 6 → Nat.testBit 63 v = true := by decide
theorem wcE_0 {iv : IV} {r k i n q : Nat} {fs : List (Nat × Nat)} (hn : n ≤ 6) (h : iv (r + 1) (k * 5 + i) = nI 63) : wcE iv r k i n fs q 0 := ⟨63, h, by decide, fun v hv => t63 v (by omega)⟩
theorem wcE_add {iv iv' : IV} {r k i x a bits q m : Nat} {n : Nat → Nat} {fs : List (Nat × Nat)} (h : ∀ j, j < 5 → wcE iv r k j (n j) fs q m) (hqm : q + m = fs.length) (hF : Fr iv iv' (pRc r k i)) (hr : 1000 ≤ r) (hx : ∀ v, v < n i → x.testBit v = wmI fs q i v m) (hx64 : x < 64) (ha : mkE (n i) a bits) (hv : iv' (r + 1) (k * 5 + i) = nI (x &&& a)) : ∀ j, j < 5 → wcE iv' r k j (n j) (fs ++ [(i, bits)]) q (m + 1) := by
  intro j hj
  have hp : ∀ u, wmI (fs ++ [(i, bits)]) q j u m = wmI fs q j u m := fun u => wmI_pre m (fun j hj => getD_app_lt (by omega))
  have hl : (fs ++ [(i, bits)]).getD (q + m) (0, 0) = (i, bits) := by rw [hqm, getD_app_eq]
  by_cases hji : j = i
  · subst hji
    refine ⟨x &&& a, hv, and_lt hx64, fun u hu => ?_⟩
    rw [wmI, hp, hl, Nat.testBit_and, hx u hu, ha.2 u hu]
    simp
  · obtain ⟨c, h1, h2, h3⟩ := h j hj
    refine ⟨c, (hF _ _ (by simp only [pRc, pZ]; omega)).trans h1, h2, fun u hu => ?_⟩
    rw [wmI, hp, hl, h3 u hu]
    simp [Ne.symm hji]
theorem LI.frQ {iv iv' : IV} {jv jv' : JV} {b r k : Nat} {ins : List Col} (h : LI iv jv b ins) (hb : 1000 ≤ b) (hd : r + 3 ≤ b ∨ b + 40 ≤ r) (hF : Fr iv iv' (pRw r k)) (hJ : FrJ jv jv' qZ) : LI iv' jv' b ins :=
  h.fr hF hJ (fun j => by simp only [pRw, pZ]; omega) (fun i hi => ⟨fun j => by have := h.2.2.1; simp only [pRw, pZ]; omega, fun j => by simp only [qZ]; omega, fun j => by simp only [qZ]; omega⟩)
theorem CV.frQ {iv iv' : IV} {jv jv' : JV} {b r k : Nat} {outs : List Wd} (h : CV iv jv (b + 20) outs) (hb : 1000 ≤ b) (hd : r + 3 ≤ b ∨ b + 40 ≤ r) (hF : Fr iv iv' (pRw r k)) (hJ : FrJ jv jv' qZ) : CV iv' jv' (b + 20) outs :=
  h.fr hF hJ (by simp only [pRw, pZ]; omega) (fun v => by simp only [qZ]; omega)
abbrev pWh (w : Nat) : Nat → Nat → Prop := fun lb j => pZ lb j ∨ (w ≤ lb ∧ lb < w + 4)
theorem pRw_W {w k lb j : Nat} (h : pRw (w + 1) k lb j) : pWh w lb j := by
  rcases h with h | h | h | h
  · exact Or.inl h
  · exact Or.inr (by omega)
  · exact Or.inr (by omega)
  · exact Or.inr (by omega)
theorem LI.frW {iv iv' : IV} {jv jv' : JV} {b w : Nat} {ins : List Col} (h : LI iv jv b ins) (hb : 1000 ≤ b) (hd : w + 4 ≤ b ∨ b + 40 ≤ w) (hF : Fr iv iv' (pWh w)) (hJ : FrJ jv jv' qZ) : LI iv' jv' b ins :=
  h.fr hF hJ (fun j => by simp only [pWh, pZ]; omega) (fun i hi => ⟨fun j => by have := h.2.2.1; simp only [pWh, pZ]; omega, fun j => by simp only [qZ]; omega, fun j => by simp only [qZ]; omega⟩)
theorem CV.frW {iv iv' : IV} {jv jv' : JV} {b w : Nat} {outs : List Wd} (h : CV iv jv (b + 20) outs) (hb : 1000 ≤ b) (hd : w + 4 ≤ b ∨ b + 40 ≤ w) (hF : Fr iv iv' (pWh w)) (hJ : FrJ jv jv' qZ) : CV iv' jv' (b + 20) outs :=
  h.fr hF hJ (by simp only [pWh, pZ]; omega) (fun v => by simp only [qZ]; omega)
abbrev pT3 (w : Nat) : Nat → Nat → Prop := fun lb j => (lb = 102 ∧ j = 1) ∨ lb = 103 ∨ lb = 104 ∨ lb = 105 ∨ (w ≤ lb ∧ lb < w + 4)
abbrev qT3 : Nat → Nat → Prop := fun lb j => lb = 106 ∨ (lb = 103 ∧ j = 7)
theorem pWh_3 {w lb j : Nat} (h : pWh w lb j) : pT3 w lb j := by
  rcases h with (h | h) | h
  · exact Or.inl h
  · exact Or.inr (Or.inl h.1)
  · exact Or.inr (Or.inr (Or.inr (Or.inr h)))
