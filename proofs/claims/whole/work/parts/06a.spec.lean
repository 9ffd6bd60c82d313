/-! ===== digits ===== -/
theorem vOf_s {f : Nat → Nat} {m c i : Nat} : vOf f (m + 1) c i = if i < m then vOf f m (c / f m) i else c % f i := by
  unfold vOf
  rw [dq]
  split <;> rfl
def qt (f : Nat → Nat) (j : Nat) : Nat → Nat → Nat
  | 0, v => v
  | k + 1, v => if j ≤ k then qt f j k (v / f k) else v
theorem vOf_qt {f : Nat → Nat} {i : Nat} : ∀ (m c : Nat), vOf f m c i = qt f (i + 1) m c % f i
  | 0, c => rfl
  | m + 1, c => by
    rw [vOf_s, qt]
    by_cases h : i < m
    · rw [if_pos h, if_pos (by omega), vOf_qt m]
    · rw [if_neg h, if_neg (by omega)]
theorem qt_m {f : Nat → Nat} : ∀ m c, qt f m m c = c
  | 0, _ => rfl
  | m + 1, c => by rw [qt, if_neg (by omega)]
theorem qt_p {f : Nat → Nat} {j : Nat} : ∀ m c, j < m → qt f j m c = qt f (j + 1) m c / f j
  | 0, _, h => absurd h (Nat.not_lt_zero j)
  | m + 1, c, h => by
    rw [qt, qt, if_pos (by omega)]
    by_cases hjm : j + 1 ≤ m
    · rw [if_pos hjm, qt_p m _ (by omega)]
    · have : j = m := by omega
      subst this
      rw [if_neg hjm, qt_m]
theorem dm_same {q f : Nat} (hf : 0 < f) (h : q % f + 1 < f) : (q + 1) / f = q / f ∧ (q + 1) % f = q % f + 1 := by
  have e := Nat.div_add_mod q f
  have e2 : q + 1 = f * (q / f) + (q % f + 1) := by omega
  constructor
  · rw [e2, Nat.mul_add_div hf, Nat.div_eq_of_lt h, Nat.add_zero]
  · rw [e2, Nat.mul_add_mod, Nat.mod_eq_of_lt h]
theorem dm_carry {q f : Nat} (hf : 0 < f) (h : ¬ q % f + 1 < f) : (q + 1) / f = q / f + 1 ∧ (q + 1) % f = 0 := by
  have e := Nat.div_add_mod q f
  have hm := Nat.mod_lt q hf
  have e2 : q + 1 = f * (q / f + 1) := by rw [Nat.mul_add, Nat.mul_one]; omega
  constructor
  · rw [e2, Nat.mul_div_cancel_left _ hf]
  · rw [e2, Nat.mul_mod_right]
theorem vOf_0 {f : Nat → Nat} {i : Nat} : ∀ m, vOf f m 0 i = 0
  | 0 => by rw [vOf_qt]; show 0 % _ = 0; exact Nat.zero_mod _
  | m + 1 => by
    rw [vOf_s, Nat.zero_div, vOf_0 m]
    split
    · rfl
    · exact Nat.zero_mod _
/-- an index that may be NONE at its lower end -/
def dwn (j : Nat) : Int32 := match j with
  | 0 => -1
  | k + 1 => nI k
theorem dwn_s (k : Nat) : dwn (k + 1) = nI k := rfl
theorem dwn_neg {j : Nat} (h : j < 2147483648) : dwn j < 0 ↔ j = 0 := by
  cases j with
  | zero => exact ⟨fun _ => rfl, fun _ => by decide⟩
  | succ k => exact ⟨fun h2 => absurd h2 (nI_pos (by omega)), fun h2 => by cases h2⟩
theorem dwn_dec (k : Nat) : nI k + (-1) = dwn k := by
  cases k with
  | zero => decide
  | succ k => rw [nI_succ, Int32.add_assoc, show (1 : Int32) + -1 = 0 by decide, Int32.add_zero]; rfl
/-! all of a row of answers -/
def allI (p : Nat → Bool) : Nat → Bool
  | 0 => true
  | i + 1 => allI p i && p i
theorem allI_f {p : Nat → Bool} {i : Nat} (h : allI p i = false) : ∀ k, allI p (i + k) = false
  | 0 => h
  | k + 1 => by rw [← Nat.add_assoc, allI, allI_f h k]; rfl
theorem allI_t {p : Nat → Bool} : ∀ n, allI p n = true ↔ ∀ i, i < n → p i = true
  | 0 => ⟨fun _ i hi => absurd hi (Nat.not_lt_zero i), fun _ => rfl⟩
  | n + 1 => by
    rw [allI, Bool.and_eq_true, allI_t n]
    exact ⟨fun h i hi => by
      by_cases hin : i = n
      · rw [hin]; exact h.2
      · exact h.1 i (by omega), fun h => ⟨fun i hi => h i (by omega), h n (by omega)⟩⟩
theorem ftI_all {ce f : Nat → Nat} {m c : Nat} : ∀ i, ftI ce f m c i = allI (fun i => (ce i).testBit (vOf f m c i)) i
  | 0 => rfl
  | i + 1 => by rw [ftI, allI, ftI_all i]
theorem fit_all {tab : Tab} {r c : Nat} : fit tab r c = allI (fun i => (tce tab r i).testBit (vOf (tf tab) (tm tab) c i)) (tm tab) := ftI_all _
theorem whI_t {tab : Tab} {g : Prg} {c q : Nat} : ∀ n, whI tab g c q n = true ↔ ∀ k, k < n → (g.1.getD (q + k) (0, 0)).2.testBit (vOf (tf tab) (tm tab) c (g.1.getD (q + k) (0, 0)).1) = true
  | 0 => ⟨fun _ i hi => absurd hi (Nat.not_lt_zero i), fun _ => rfl⟩
  | n + 1 => by
    rw [whI, Bool.and_eq_true, whI_t n]
    exact ⟨fun h i hi => by
      by_cases hin : i = n
      · rw [hin]; exact h.2
      · exact h.1 i (by omega), fun h => ⟨fun i hi => h i (by omega), h n (by omega)⟩⟩
theorem wmI_t {fs : List (Nat × Nat)} {q i v : Nat} : ∀ n, wmI fs q i v n = true ↔ ∀ k, k < n → ((fs.getD (q + k) (0, 0)).1 ≠ i ∨ (fs.getD (q + k) (0, 0)).2.testBit v = true)
  | 0 => ⟨fun _ i hi => absurd hi (Nat.not_lt_zero i), fun _ => rfl⟩
  | n + 1 => by
    rw [wmI, Bool.and_eq_true, wmI_t n, Bool.or_eq_true, decide_eq_true_eq]
    exact ⟨fun h i hi => by
      by_cases hin : i = n
      · rw [hin]; exact h.2
      · exact h.1 i (by omega), fun h => ⟨fun i hi => h i (by omega), h n (by omega)⟩⟩
/-- a WHEN holds where its CELLS do -/
theorem wh_all {tab : Tab} {g : Prg} (hg : prgOK tab g) {c w : Nat} (hw : w < g.2.1.length) : wh tab g c w = allI (fun i => wmI g.1 (g.2.1.getD w (0, 0)).1 i (vOf (tf tab) (tm tab) c i) (wto g w - (g.2.1.getD w (0, 0)).1)) (tm tab) := by
  have hb := wto_b hg hw
  rw [Bool.eq_iff_iff, allI_t]
  unfold wh
  rw [whI_t]
  constructor
  · intro h i hi
    rw [wmI_t]
    intro k hk
    by_cases he : (g.1.getD ((g.2.1.getD w (0, 0)).1 + k) (0, 0)).1 = i
    · right; rw [← he]; exact h k hk
    · exact Or.inl he
  · intro h k hk
    have h1 := (hg.1 ((g.2.1.getD w (0, 0)).1 + k) (by omega)).1
    have h2 := (wmI_t _).mp (h _ h1) k hk
    rcases h2 with h2 | h2
    · exact absurd rfl h2
    · exact h2
/-! ===== TERMS: strides, narrower TERMS ===== -/
def st (g : Nat → Nat) : Nat → Nat → Nat
  | 0, _ => 1
  | m + 1, i => if i < m then st g m i * g m else 1
theorem st_prd {g : Nat → Nat} : ∀ m i, i < m → st g m i * g i = st g m (i - 1) ∨ i = 0
  | m, i, _ => by
    by_cases h : i = 0
    · exact Or.inr h
    · left
      induction m with
      | zero => omega
      | succ m ih =>
        by_cases him : i < m
        · rw [st, st, if_pos him, if_pos (by omega), ← ih him]
          simp only [Nat.mul_comm, Nat.mul_left_comm]
        · have hi : i = m := by omega
          subst hi
          rw [st, st, if_neg (by omega), if_pos (by omega)]
          have e : ∀ k, 0 < k → st g k (k - 1) = 1 := fun k hk => by
            obtain ⟨j, rfl⟩ : ∃ j, k = j + 1 := ⟨k - 1, by omega⟩
            rw [st, if_neg (by omega)]
          rw [e i (by omega)]
theorem st_0 {g : Nat → Nat} : ∀ m, 0 < m → st g m 0 * g 0 = prd g m
  | 0, h => absurd h (Nat.lt_irrefl 0)
  | m + 1, _ => by
    cases m with
    | zero => show 1 * g 0 = 1 * g 0; rfl
    | succ m => rw [st, if_pos (by omega), prd, ← st_0 (m + 1) (by omega)]; simp only [Nat.mul_comm, Nat.mul_left_comm]
theorem sub_dm {q k g : Nat} (hg : 0 < g) (h : k * g ≤ q) : (q - k * g) / g = q / g - k ∧ (q - k * g) % g = q % g := by
  obtain ⟨r, hr⟩ : ∃ r, q = r + k * g := ⟨q - k * g, by omega⟩
  subst hr
  rw [Nat.add_sub_cancel, Nat.add_mul_div_right _ _ hg, Nat.add_sub_cancel, Nat.add_mul_mod_self_right]
  exact ⟨rfl, rfl⟩
/-- digits of the TERM that tells v where q tells any -/
theorem nar {g : Nat → Nat} (hg : ∀ i, 0 < g i) {i v : Nat} : ∀ m q, i < m → vOf g m q i = g i - 1 → v < g i → (g i - 1 - v) * st g m i ≤ q ∧ ∀ j, j < m → vOf g m (q - (g i - 1 - v) * st g m i) j = if j = i then v else vOf g m q j
  | 0, q, h, _, _ => absurd h (Nat.not_lt_zero i)
  | m + 1, q, h, hd, hv => by
    by_cases him : i < m
    · rw [vOf_s, if_pos him] at hd
      have ih := nar hg m (q / g m) him hd hv
      have hs : st g (m + 1) i = st g m i * g m := by rw [st, if_pos him]
      have hle : (g i - 1 - v) * st g m i * g m ≤ q := Nat.le_trans (Nat.mul_le_mul_right _ ih.1) (Nat.div_mul_le_self q (g m))
      have sd := sub_dm (hg m) hle
      rw [hs, ← Nat.mul_assoc]
      refine ⟨hle, fun j hj => ?_⟩
      rw [vOf_s, vOf_s, sd.1]
      by_cases hjm : j < m
      · rw [if_pos hjm, if_pos hjm, ih.2 j hjm]
      · have : j = m := by omega
        subst this
        rw [if_neg hjm, if_neg hjm, if_neg (by omega), sd.2]
    · have hi : i = m := by omega
      subst hi
      have hs : st g (i + 1) i = 1 := by rw [st, if_neg (by omega)]
      rw [vOf_s, if_neg (by omega)] at hd
      have e := Nat.div_add_mod q (g i)
      have hgi := hg i
      rw [hs, Nat.mul_one]
      have e2 : q - (g i - 1 - v) = g i * (q / g i) + v := by omega
      refine ⟨by have := Nat.mod_le q (g i); omega, fun j hj => ?_⟩
      rw [vOf_s, vOf_s, e2]
      by_cases hji : j < i
      · rw [if_pos hji, if_pos hji, if_neg (by omega), Nat.mul_add_div hgi, Nat.div_eq_of_lt hv, Nat.add_zero]
      · have : j = i := by omega
        subst this
        rw [if_neg hji, if_neg hji, if_pos rfl, Nat.mul_add_mod, Nat.mod_eq_of_lt hv]
def g1 (tab : Tab) : Nat → Nat := fun i => tf tab i + 1
def nrw (tab : Tab) (q i v : Nat) : Nat := q - (tf tab i - v) * st (g1 tab) (tm tab) i
theorem nrw_ok {tab : Tab} {q i v : Nat} (hi : i < tm tab) (hq : tAt tab q i = none) (hv : v < tf tab i) : (tf tab i - v) * st (g1 tab) (tm tab) i ≤ q ∧ (∀ j, j < tm tab → tAt tab (nrw tab q i v) j = if j = i then some v else tAt tab q j) ∧ nrw tab q i v < q := by
  have hd : vOf (g1 tab) (tm tab) q i = g1 tab i - 1 := by
    unfold tAt at hq
    split at hq
    · rename_i h; show _ = tf tab i + 1 - 1; rw [Nat.add_sub_cancel]; exact h
    · cases hq
  have h := nar (g := g1 tab) (fun i => Nat.succ_pos _) (v := v) (tm tab) q hi hd (by show v < tf tab i + 1; omega)
  rw [show g1 tab i - 1 - v = tf tab i - v by show tf tab i + 1 - 1 - v = _; omega] at h
  refine ⟨h.1, fun j hj => ?_, ?_⟩
  · have e := h.2 j hj
    show (if vOf (g1 tab) (tm tab) (nrw tab q i v) j = tf tab j then none else some (vOf (g1 tab) (tm tab) (nrw tab q i v) j)) = _
    unfold nrw
    rw [e]
    by_cases hji : j = i
    · subst hji
      rw [if_pos rfl, if_pos rfl, if_neg (by omega)]
    · rw [if_neg hji, if_neg hji]; rfl
  · have hs : ∀ m i, 0 < st (g1 tab) m i := by
      intro m
      induction m with
      | zero => intro i; exact Nat.one_pos
      | succ m ih =>
        intro i
        rw [st]
        split
        · exact Nat.mul_pos (ih i) (Nat.succ_pos _)
        · exact Nat.one_pos
    have h2 : 0 < (tf tab i - v) * st (g1 tab) (tm tab) i := Nat.mul_pos (by omega) (hs _ _)
    unfold nrw
    omega
theorem nrw_s {tab : Tab} {q i v : Nat} (h : (tf tab i - v) * st (g1 tab) (tm tab) i ≤ q) (hv : v < tf tab i) : nrw tab q i v + st (g1 tab) (tm tab) i = nrw tab q i (v + 1) := by
  unfold nrw
  rw [show tf tab i - v = (tf tab i - (v + 1)) + 1 by omega, Nat.add_mul, Nat.one_mul] at h ⊢
  omega
theorem hld_nrw {tab : Tab} {q i v c : Nat} (hi : i < tm tab) (hq : tAt tab q i = none) (hv : v < tf tab i) : hld tab (nrw tab q i v) c = (hld tab q c && decide (vOf (tf tab) (tm tab) c i = v)) := by
  have h := (nrw_ok hi hq hv).2.1
  rw [Bool.eq_iff_iff, Bool.and_eq_true, decide_eq_true_eq]
  simp only [hld, decide_eq_true_eq]
  constructor
  · intro h1
    refine ⟨fun j hj => ?_, ?_⟩
    · by_cases hji : j = i
      · left; rw [hji]; exact hq
      · have := h1 j hj; rw [h j hj, if_neg hji] at this; exact this
    · have := h1 i hi
      rw [h i hi, if_pos rfl] at this
      rcases this with h2 | h2
      · cases h2
      · exact (Option.some.inj h2).symm
  · rintro ⟨h1, h2⟩ j hj
    rw [h j hj]
    by_cases hji : j = i
    · subst hji; rw [if_pos rfl]; right; rw [h2]
    · rw [if_neg hji]; exact h1 j hj
/-! full TERMS are CASES -/
def ful (tab : Tab) (m q : Nat) : Bool := allI (fun i => decide (vOf (g1 tab) m q i ≠ tf tab i)) m
theorem dm_1 {q g : Nat} (hg : 0 < g) : ((q + 1) / g = q / g ∧ (q + 1) % g = q % g + 1 ∧ q % g + 1 < g) ∨ ((q + 1) / g = q / g + 1 ∧ (q + 1) % g = 0 ∧ q % g + 1 = g) := by
  by_cases h : q % g + 1 < g
  · left; have h2 := dm_same hg h; exact ⟨h2.1, h2.2, h⟩
  · right; have h2 := dm_carry hg h; have h3 := Nat.mod_lt q hg; exact ⟨h2.1, h2.2, by omega⟩
theorem allI_congr {p r : Nat → Bool} : ∀ n, (∀ i, i < n → p i = r i) → allI p n = allI r n
  | 0, _ => rfl
  | n + 1, h => by rw [allI, allI, allI_congr n (fun i hi => h i (by omega)), h n (by omega)]
theorem ful_s {tab : Tab} {m q : Nat} : ful tab (m + 1) q = (ful tab m (q / g1 tab m) && decide (q % g1 tab m ≠ tf tab m)) := by
  unfold ful
  rw [allI]
  congr 1
  · exact allI_congr m (fun i hi => by rw [vOf_s, if_pos hi])
  · rw [vOf_s, if_neg (by omega)]
theorem cnt_ful {tab : Tab} {m : Nat} : ∀ q, cntN (ful tab (m + 1)) q = cntN (ful tab m) (q / g1 tab m) * tf tab m + (if ful tab m (q / g1 tab m) = true then min (q % g1 tab m) (tf tab m) else 0)
  | 0 => by rw [Nat.zero_div, Nat.zero_mod]; simp [cntN]
  | q + 1 => by
    have ih := cnt_ful (tab := tab) (m := m) q
    have hg : g1 tab m = tf tab m + 1 := rfl
    rw [cntN, ih, ful_s]
    rcases dm_1 (q := q) (g := g1 tab m) (Nat.succ_pos _) with ⟨h1, h2, h3⟩ | ⟨h1, h2, h3⟩
    · rw [h1, h2]
      cases hf : ful tab m (q / g1 tab m) with
      | false => simp
      | true =>
        have e : decide (q % g1 tab m ≠ tf tab m) = true := by rw [decide_eq_true_eq]; omega
        rw [e]
        simp only [Bool.and_self, if_true]
        rw [Nat.min_def, Nat.min_def, if_pos (by omega), if_pos (by omega)]
        omega
    · rw [h1, h2, cntN]
      cases hf : ful tab m (q / g1 tab m) with
      | false => simp
      | true =>
        have e : decide (q % g1 tab m ≠ tf tab m) = false := by rw [decide_eq_false_iff_not]; omega
        rw [e]
        simp only [Bool.and_false, Bool.false_eq_true, if_false, if_true, Nat.zero_min, Nat.min_zero, Nat.add_zero]
        rw [Nat.min_def, if_pos (by omega), Nat.add_mul]
        split <;> omega
theorem ful_case {tab : Tab} (hp : ∀ i, 0 < tf tab i ∨ True) : ∀ m q, ful tab m q = true → ∀ i, i < m → vOf (tf tab) m (cntN (ful tab m) q) i = vOf (g1 tab) m q i
  | 0, q, _, i, hi => absurd hi (Nat.not_lt_zero i)
  | m + 1, q, h, i, hi => by
    rw [ful_s, Bool.and_eq_true, decide_eq_true_eq] at h
    have hm := Nat.mod_lt q (show 0 < g1 tab m from Nat.succ_pos _)
    have hg : g1 tab m = tf tab m + 1 := rfl
    have hlt : q % g1 tab m < tf tab m := by omega
    rw [cnt_ful, if_pos h.1, Nat.min_def, if_pos (by omega), vOf_s, vOf_s]
    have e1 : (cntN (ful tab m) (q / g1 tab m) * tf tab m + q % g1 tab m) / tf tab m = cntN (ful tab m) (q / g1 tab m) := by
      rw [Nat.mul_comm, Nat.mul_add_div (by omega), Nat.div_eq_of_lt hlt, Nat.add_zero]
    have e2 : (cntN (ful tab m) (q / g1 tab m) * tf tab m + q % g1 tab m) % tf tab m = q % g1 tab m := by
      rw [Nat.mul_comm, Nat.mul_add_mod, Nat.mod_eq_of_lt hlt]
    by_cases him : i < m
    · rw [if_pos him, if_pos him, e1]
      exact ful_case hp m _ h.1 i him
    · have : i = m := by omega
      subst this
      rw [if_neg him, if_neg him, e2]
theorem ful_lt {tab : Tab} : ∀ m q, q < prd (g1 tab) m → ful tab m q = true → cntN (ful tab m) q < prd (tf tab) m
  | 0, q, hq, _ => by
    have : q = 0 := by rw [prd] at hq; omega
    subst this
    exact Nat.one_pos
  | m + 1, q, hq, h => by
    rw [ful_s, Bool.and_eq_true, decide_eq_true_eq] at h
    have hg : g1 tab m = tf tab m + 1 := rfl
    have hm := Nat.mod_lt q (show 0 < g1 tab m from Nat.succ_pos _)
    rw [prd] at hq ⊢
    have ih := ful_lt m (q / g1 tab m) ((Nat.div_lt_iff_lt_mul (Nat.succ_pos _)).mpr hq) h.1
    rw [cnt_ful, if_pos h.1, Nat.min_def, if_pos (by omega)]
    have h2 : (cntN (ful tab m) (q / g1 tab m) + 1) * tf tab m ≤ prd (tf tab) m * tf tab m := Nat.mul_le_mul_right _ ih
    rw [Nat.add_mul, Nat.one_mul] at h2
    omega
