def isWh (G : GW) (w : Nat) : Prop := (w ∈ G.L ∧ G.kd w = 9) ∧ isRo G (w + 1) ∧ G.rv w 0 = some (w + 1)
/-- VALUES for which k TESTS from q on hold, of an INPUT -/
def wmI (fs : List (Nat × Nat)) (q i v : Nat) : Nat → Bool
  | 0 => true
  | k + 1 => wmI fs q i v k && (decide ((fs.getD (q + k) (0, 0)).1 ≠ i) || (fs.getD (q + k) (0, 0)).2.testBit v)
theorem wmI_pre {fs fs' : List (Nat × Nat)} {q i v : Nat} : ∀ k, (∀ j, j < q + k → fs'.getD j (0, 0) = fs.getD j (0, 0)) → wmI fs' q i v k = wmI fs q i v k
  | 0, _ => rfl
  | k + 1, h => by rw [wmI, wmI, wmI_pre k (fun j hj => h j (by omega)), h (q + k) (by omega)]
theorem pre_get {fs fs' : List (Nat × Nat)} (h : fs'.take fs.length = fs) {j : Nat} (hj : j < fs.length) : fs'.getD j (0, 0) = fs.getD j (0, 0) := by
  have e : fs.getD j (0, 0) = (fs'.take fs.length).getD j (0, 0) := by rw [h]
  rw [e, List.getD_eq_getElem?_getD, List.getD_eq_getElem?_getD, List.getElem?_take_of_lt hj]
/-- a CELL of a WHEN -/
def wcE (iv : IV) (r k i n : Nat) (fs : List (Nat × Nat)) (q m : Nat) : Prop := ∃ a, iv (r + 1) (k * 5 + i) = nI a ∧ a < 64 ∧ ∀ v, v < n → a.testBit v = wmI fs q i v m
/-- the WHENS of a PROGRAM in the class: m INPUTS of f VALUES -/
def RWp (iv : IV) (r m : Nat) (f : Nat → Nat) (fs ws : List (Nat × Nat)) : Prop := iv r 0 = nI ws.length ∧ ws.length ≤ 40 ∧ ∀ k, k < ws.length → (∀ i, i < m → wcE iv r k i (f i) fs (ws.getD k (0, 0)).1 (wto (fs, ws, 0) k - (ws.getD k (0, 0)).1)) ∧ iv (r + 2) k = nI (ws.getD k (0, 0)).2
theorem wcE.fr {iv iv' : IV} {r k i n q m : Nat} {fs : List (Nat × Nat)} {P : Nat → Nat → Prop} (h : wcE iv r k i n fs q m) (hF : Fr iv iv' P) (h1 : ¬ P (r + 1) (k * 5 + i)) : wcE iv' r k i n fs q m := by
  obtain ⟨a, h2, h3⟩ := h
  exact ⟨a, (hF _ _ h1).trans h2, h3⟩
theorem RWp.fr {iv iv' : IV} {r m : Nat} {f : Nat → Nat} {fs ws : List (Nat × Nat)} {P : Nat → Nat → Prop} (h : RWp iv r m f fs ws) (hm : m ≤ 5) (hF : Fr iv iv' P) (h0 : ¬ P r 0) (h1 : ∀ j, j < ws.length * 5 → ¬ P (r + 1) j) (h2 : ∀ k, k < ws.length → ¬ P (r + 2) k) : RWp iv' r m f fs ws :=
  ⟨(hF _ _ h0).trans h.1, h.2.1, fun k hk => ⟨fun i hi => ((h.2.2 k hk).1 i hi).fr hF (h1 _ (by omega)), (hF _ _ (h2 k hk)).trans (h.2.2 k hk).2⟩⟩
theorem RWp.add {outs : List Wd} {iv : IV} {r m v : Nat} {f : Nat → Nat} {fs fs' ws : List (Nat × Nat)} (hpre : fs'.take fs.length = fs) (hw : wsOK outs fs ws) (hle : fs.length ≤ fs'.length) (h : ∀ k, k < ws.length → (∀ i, i < m → wcE iv r k i (f i) fs (ws.getD k (0, 0)).1 (wto (fs, ws, 0) k - (ws.getD k (0, 0)).1)) ∧ iv (r + 2) k = nI (ws.getD k (0, 0)).2) (h40 : ws.length < 40) (h0 : iv r 0 = nI (ws.length + 1)) (h1 : ∀ i, i < m → wcE iv r ws.length i (f i) fs' fs.length (fs'.length - fs.length)) (h2 : iv (r + 2) ws.length = nI v) : RWp iv r m f fs' (ws ++ [(fs.length, v)]) := by
  refine ⟨by rw [List.length_append]; exact h0, by rw [List.length_append, List.length_singleton]; omega, fun k hk => ?_⟩
  by_cases hkl : k < ws.length
  · have e2 : wto (fs', ws ++ [(fs.length, v)], 0) k = wto (fs, ws, 0) k := by
      unfold wto
      simp only [List.length_append, List.length_singleton]
      rw [if_pos (by omega)]
      by_cases hk1 : k + 1 < ws.length
      · rw [if_pos hk1, getD_app_lt hk1]
      · rw [if_neg hk1, show k + 1 = ws.length by omega, getD_app_eq]
    rw [getD_app_lt hkl, e2]
    refine ⟨fun i hi => ?_, (h k hkl).2⟩
    obtain ⟨a, h3, h4, h5⟩ := (h k hkl).1 i hi
    refine ⟨a, h3, h4, fun u hu => ?_⟩
    rw [h5 u hu]
    refine (wmI_pre _ (fun j hj => pre_get hpre ?_)).symm
    have hb : (ws.getD k (0, 0)).1 ≤ wto (fs, ws, 0) k ∧ wto (fs, ws, 0) k ≤ fs.length := by
      unfold wto
      simp only
      split
      · rename_i hk1; exact ⟨hw.2.2 k hk1, (hw.2.1 (k + 1) hk1).2⟩
      · exact ⟨(hw.2.1 k hkl).2, Nat.le_refl _⟩
    omega
  · have : k = ws.length := by rw [List.length_append, List.length_singleton] at hk; omega
    subst this
    have e2 : wto (fs', ws ++ [(fs.length, v)], 0) ws.length = fs'.length := by
      unfold wto
      simp only [List.length_append, List.length_singleton]
      rw [if_neg (by omega)]
    rw [getD_app_eq, e2]
    exact ⟨h1, h2⟩
def WHc (iv : IV) (w : Nat) (tab : Tab) (g : Prg) : Prop := RWp iv (w + 1) (tm tab) (tf tab) g.1 g.2.1 ∧ iv w 1 = nI g.2.2
theorem rdWhen_b {B : Nat → Nat} {n : Nat} {ins : List Col} {outs : List Wd} {fs : List (Nat × Nat)} {t : Tok} (h : (rdTs B n ins (200 - fs.length) fs t).1 ≠ 0) : (rdWhen B n ins outs fs t).1 = (rdTs B n ins (200 - fs.length) fs t).1 ∧ (rdWhen B n ins outs fs t).2.2 = (rdTs B n ins (200 - fs.length) fs t).2.2 := by
  have e1 : ndK B n (rdTs B n ins (200 - fs.length) fs t).1 (rdTs B n ins (200 - fs.length) fs t).2.2 24 = ((rdTs B n ins (200 - fs.length) fs t).1, (rdTs B n ins (200 - fs.length) fs t).2.2) := by rw [ndK, if_pos h]
  have e2 : rdV B n outs (rdTs B n ins (200 - fs.length) fs t).1 (rdTs B n ins (200 - fs.length) fs t).2.2 = ((rdTs B n ins (200 - fs.length) fs t).1, 0, (rdTs B n ins (200 - fs.length) fs t).2.2) := by rw [rdV, if_pos h]
  have e3 : nd B n (rdTs B n ins (200 - fs.length) fs t).1 (rdTs B n ins (200 - fs.length) fs t).2.2 59 = ((rdTs B n ins (200 - fs.length) fs t).1, (rdTs B n ins (200 - fs.length) fs t).2.2) := by rw [nd, if_pos h]
  simp only [rdWhen, e1, e2, e3]
  exact ⟨trivial, trivial⟩
theorem rdWhen_a {B : Nat → Nat} {n : Nat} {ins : List Col} {outs : List Wd} {fs : List (Nat × Nat)} {t : Tok} (h : (rdTs B n ins (200 - fs.length) fs t).1 = 0) (hn : kwP B (rdTs B n ins (200 - fs.length) fs t).2.2 24 = false) : (rdWhen B n ins outs fs t).1 = 1 ∧ (rdWhen B n ins outs fs t).2.2 = (rdTs B n ins (200 - fs.length) fs t).2.2 := by
  have e1 : ndK B n (rdTs B n ins (200 - fs.length) fs t).1 (rdTs B n ins (200 - fs.length) fs t).2.2 24 = (1, (rdTs B n ins (200 - fs.length) fs t).2.2) := by rw [ndK, if_neg (by simp [h]), if_neg (by simp [hn])]
  simp only [rdWhen, e1]
  rw [rdV, if_pos (by decide), nd, if_pos (by simp)]
  exact ⟨rfl, rfl⟩
theorem rdWhen_o {B : Nat → Nat} {n : Nat} {ins : List Col} {outs : List Wd} {fs : List (Nat × Nat)} {t : Tok} (h : (rdTs B n ins (200 - fs.length) fs t).1 = 0) (hn : kwP B (rdTs B n ins (200 - fs.length) fs t).2.2 24 = true) : rdWhen B n ins outs fs t = ((rdO B n outs (nx B n (rdTs B n ins (200 - fs.length) fs t).2.2)).1, ((rdTs B n ins (200 - fs.length) fs t).2.1, (rdO B n outs (nx B n (rdTs B n ins (200 - fs.length) fs t).2.2)).2.1), (rdO B n outs (nx B n (rdTs B n ins (200 - fs.length) fs t).2.2)).2.2) := by
  have e1 : ndK B n (rdTs B n ins (200 - fs.length) fs t).1 (rdTs B n ins (200 - fs.length) fs t).2.2 24 = (0, nx B n (rdTs B n ins (200 - fs.length) fs t).2.2) := by rw [ndK, if_neg (by simp [h]), if_pos hn]
  simp only [rdWhen, e1, rdO]
