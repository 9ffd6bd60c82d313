theorem rcI_st {B : Nat → Nat} {n : Nat} {cols : Nat → List Wd} {t : Tok} {i : Nat} (h : (rcI B n cols i 0 t).1 ≠ 0) : ∀ k, (rcI B n cols (i + k) 0 t).1 = (rcI B n cols i 0 t).1 ∧ (rcI B n cols (i + k) 0 t).2.2 = (rcI B n cols i 0 t).2.2
  | 0 => ⟨rfl, rfl⟩
  | k + 1 => by
    have ih := rcI_st h k
    rw [← Nat.add_assoc]
    have hb : (rcI B n cols (i + k) 0 t).1 ≠ 0 := by rw [ih.1]; exact h
    have e : rdCell B n (cols (i + k)) (rcI B n cols (i + k) 0 t).1 (rcI B n cols (i + k) 0 t).2.2 = ((rcI B n cols (i + k) 0 t).1, 0, (rcI B n cols (i + k) 0 t).2.2) := by rw [rdCell, if_pos hb]
    simp only [rcI, e]
    exact ih
theorem rdRow_b {B : Nat → Nat} {n m i : Nat} {cols : Nat → List Wd} {outs : List Wd} {t : Tok} (hi : i ≤ m) (h : (rcI B n cols i 0 t).1 ≠ 0) : (rdRow B n cols m outs t).1 = (rcI B n cols i 0 t).1 ∧ (rdRow B n cols m outs t).2.2 = (rcI B n cols i 0 t).2.2 := by
  have e := rcI_st h (m - i)
  rw [show i + (m - i) = m by omega] at e
  have hb : (rcI B n cols m 0 t).1 ≠ 0 := by rw [e.1]; exact h
  have e1 : nd B n (rcI B n cols m 0 t).1 (rcI B n cols m 0 t).2.2 256 = ((rcI B n cols m 0 t).1, (rcI B n cols m 0 t).2.2) := by rw [nd, if_pos hb]
  have e2 : rdV B n outs (rcI B n cols m 0 t).1 (rcI B n cols m 0 t).2.2 = ((rcI B n cols m 0 t).1, 0, (rcI B n cols m 0 t).2.2) := by rw [rdV, if_pos hb]
  have e3 : nd B n (rcI B n cols m 0 t).1 (rcI B n cols m 0 t).2.2 59 = ((rcI B n cols m 0 t).1, (rcI B n cols m 0 t).2.2) := by rw [nd, if_pos hb]
  simp only [rdRow, e1, e2, e3]
  exact e
/-- the OUTCOME's end -/
def rdO (B : Nat → Nat) (n : Nat) (outs : List Wd) (t : Tok) : Nat × Nat × Tok := ((nd B n (rdV B n outs 0 t).1 (rdV B n outs 0 t).2.2 59).1, (rdV B n outs 0 t).2.1, (nd B n (rdV B n outs 0 t).1 (rdV B n outs 0 t).2.2 59).2)
theorem rdO_f {B : Nat → Nat} {n : Nat} {outs : List Wd} {t : Tok} (h : (tH B outs t).1 ≠ 0) : rdO B n outs t = ((tH B outs t).1, 0, t) := by
  unfold rdO; rw [rdV_tH h, nd, if_pos h]
theorem rdO_s {B : Nat → Nat} {n v : Nat} {outs : List Wd} {t : Tok} (h : frF B t = 0) (hx : ixW outs (wd B t) = some v) : rdO B n outs t = ((nd B n 0 (nx B n t) 59).1, v, (nd B n 0 (nx B n t) 59).2) := by
  unfold rdO; rw [rdV_tS h hx]
theorem nd_y {B : Nat → Nat} {n c : Nat} {t : Tok} (h : tk t = 2 ∧ ts t = c) : nd B n 0 t c = (0, nx B n t) := by rw [nd, if_neg (by simp), if_pos h]
theorem nd_n {B : Nat → Nat} {n c : Nat} {t : Tok} (h : ¬ (tk t = 2 ∧ ts t = c)) : nd B n 0 t c = (1, t) := by rw [nd, if_neg (by simp), if_neg h]
theorem rdRow_a {B : Nat → Nat} {n m : Nat} {cols : Nat → List Wd} {outs : List Wd} {t : Tok} (h : (rcI B n cols m 0 t).1 = 0) (hn : ¬ (tk (rcI B n cols m 0 t).2.2 = 2 ∧ ts (rcI B n cols m 0 t).2.2 = 256)) : (rdRow B n cols m outs t).1 = 1 ∧ (rdRow B n cols m outs t).2.2 = (rcI B n cols m 0 t).2.2 := by
  simp only [rdRow, h, nd_n hn]
  rw [rdV, if_pos (by decide), nd, if_pos (by simp)]
  exact ⟨rfl, rfl⟩
theorem rdRow_o {B : Nat → Nat} {n m : Nat} {cols : Nat → List Wd} {outs : List Wd} {t : Tok} (h : (rcI B n cols m 0 t).1 = 0) (hn : tk (rcI B n cols m 0 t).2.2 = 2 ∧ ts (rcI B n cols m 0 t).2.2 = 256) : rdRow B n cols m outs t = ((rdO B n outs (nx B n (rcI B n cols m 0 t).2.2)).1, ((rcI B n cols m 0 t).2.1, (rdO B n outs (nx B n (rcI B n cols m 0 t).2.2)).2.1), (rdO B n outs (nx B n (rcI B n cols m 0 t).2.2)).2.2) := by
  simp only [rdRow, h, nd_y hn, rdO]
/-- ROWS and WHENS in the class: m INPUTS of f VALUES, rows -/
def RWc (iv : IV) (r m : Nat) (f : Nat → Nat) (rows : List Row) : Prop := iv r 0 = nI rows.length ∧ rows.length ≤ 40 ∧ ∀ k, k < rows.length → (∀ i, i < m → ∃ a, iv (r + 1) (k * 5 + i) = nI a ∧ mkE (f i) a ((rows.getD k dR0).1.getD i 0)) ∧ iv (r + 2) k = nI (rows.getD k dR0).2
theorem RWc.fr {iv iv' : IV} {r m : Nat} {f : Nat → Nat} {rows : List Row} {P : Nat → Nat → Prop} (h : RWc iv r m f rows) (hm : m ≤ 5) (hF : Fr iv iv' P) (h0 : ¬ P r 0) (h1 : ∀ j, j < rows.length * 5 → ¬ P (r + 1) j) (h2 : ∀ k, k < rows.length → ¬ P (r + 2) k) : RWc iv' r m f rows :=
  ⟨(hF _ _ h0).trans h.1, h.2.1, fun k hk => ⟨fun i hi => by
    obtain ⟨a, ha, hm2⟩ := (h.2.2 k hk).1 i hi
    exact ⟨a, (hF _ _ (h1 _ (by omega))).trans ha, hm2⟩, (hF _ _ (h2 k hk)).trans (h.2.2 k hk).2⟩⟩
theorem RWc.add {iv : IV} {r m : Nat} {f : Nat → Nat} {rows : List Row} {x : Row} (h : ∀ k, k < rows.length → (∀ i, i < m → ∃ a, iv (r + 1) (k * 5 + i) = nI a ∧ mkE (f i) a ((rows.getD k dR0).1.getD i 0)) ∧ iv (r + 2) k = nI (rows.getD k dR0).2) (h40 : rows.length < 40) (h0 : iv r 0 = nI (rows.length + 1)) (h1 : ∀ i, i < m → ∃ a, iv (r + 1) (rows.length * 5 + i) = nI a ∧ mkE (f i) a (x.1.getD i 0)) (h2 : iv (r + 2) rows.length = nI x.2) : RWc iv r m f (rows ++ [x]) := by
  refine ⟨by rw [List.length_append]; exact h0, by rw [List.length_append, List.length_singleton]; omega, fun k hk => ?_⟩
  by_cases hkl : k < rows.length
  · rw [getD_app_lt hkl]; exact h k hkl
  · have : k = rows.length := by rw [List.length_append, List.length_singleton] at hk; omega
    subst this
    rw [getD_app_eq]; exact ⟨h1, h2⟩
abbrev pRw (r k : Nat) : Nat → Nat → Prop := fun lb j => pZ lb j ∨ (lb = r ∧ j = 0) ∨ (lb = r + 1 ∧ k * 5 ≤ j ∧ j < k * 5 + 5) ∨ (lb = r + 2 ∧ j = k)
/-- a TABLE in a Layout -/
def LAY (iv : IV) (jv : JV) (b : Nat) (tab : Tab) : Prop := LI iv jv b tab.1 ∧ CV iv jv (b + 20) tab.2.1 ∧ RWc iv (b + 30) (tm tab) (tf tab) tab.2.2
theorem cols_tf {ins : List Col} {outs : List Wd} {rows : List Row} {i : Nat} : (colsOf ins i).length = tf (ins, outs, rows) i := by unfold tf colsOf; rw [szs_get]
