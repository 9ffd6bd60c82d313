/-! ===== the first CASE of two ROWS; QUARRELS; idle ROWS ===== -/
theorem skol {m : Nat} {P : Nat → Nat → Prop} (h : ∀ i, i < m → ∃ a, P i a) : ∃ A : Nat → Nat, ∀ i, i < m → P i (A i) :=
  ⟨fun i => if hi : i < m then Classical.choose (h i hi) else 0, fun i hi => by
    dsimp only; rw [dif_pos hi]; exact Classical.choose_spec (h i hi)⟩
theorem lst_ge : ∀ a, a < 64 → ∀ s, s ≤ 6 → s ≤ lst a → ∀ u, u < s → a.testBit u = false := by decide +kernel
theorem lst_lt : ∀ a, a < 64 → ∀ s, s ≤ 6 → lst a < s → a.testBit (lst a) = true ∧ ∀ u, u < lst a → a.testBit u = false := by decide +kernel
theorem lst_le : ∀ a, a < 64 → lst a ≤ 32 := by decide +kernel
theorem and6 : ∀ a, a < 64 → ∀ b, b < 64 → a &&& b < 64 := by decide +kernel
theorem fit_t {tab : Tab} {r c : Nat} : fit tab r c = true ↔ ∀ i, i < tm tab → (tce tab r i).testBit (vOf (tf tab) (tm tab) c i) = true := by
  rw [fit_all, allI_t]
theorem cb_some {tab : Tab} {a b : Nat} {x : Nat → Nat} (hx : ∀ i, i < tm tab → x i < tf tab i ∧ (tce tab a i).testBit (x i) = true ∧ (tce tab b i).testBit (x i) = true ∧ ∀ u, u < x i → ((tce tab a i).testBit u && (tce tab b i).testBit u) = false) : fnd (fun c => fit tab a c && fit tab b c) (tC tab) = some (cbN tab x (tm tab)) := by
  have hv := cbN_v (tab := tab) (x := x) (tm tab) (fun i hi => (hx i hi).1)
  refine fnd_some (cbN_lt _ (fun i hi => (hx i hi).1)) ?_ (fun j hj => ?_)
  · rw [Bool.and_eq_true, fit_t, fit_t]
    exact ⟨fun i hi => by rw [hv i hi]; exact (hx i hi).2.1, fun i hi => by rw [hv i hi]; exact (hx i hi).2.2.1⟩
  · cases hb : (fit tab a j && fit tab b j) with
    | false => rfl
    | true =>
      exfalso
      rw [Bool.and_eq_true, fit_t, fit_t] at hb
      have hlt : j < tC tab := Nat.lt_trans hj (cbN_lt _ (fun i hi => (hx i hi).1))
      have := cbN_le (tab := tab) (x := x) (tm tab) j hlt (fun i hi => by
        refine Nat.le_of_not_lt (fun hlt2 => ?_)
        have h1 := (hx i hi).2.2.2 _ hlt2
        rw [hb.1 i hi, hb.2 i hi] at h1
        cases h1)
      omega
theorem cb_none {tab : Tab} (hk : tabOK tab) {a b i : Nat} (hi : i < tm tab) (h : ∀ u, u < tf tab i → ((tce tab a i).testBit u && (tce tab b i).testBit u) = false) : fnd (fun c => fit tab a c && fit tab b c) (tC tab) = none :=
  fnd_none (fun j hj => by
    cases hb : (fit tab a j && fit tab b j) with
    | false => rfl
    | true =>
      exfalso
      rw [Bool.and_eq_true, fit_t, fit_t] at hb
      have hf := hk.2.2.1 i hi
      have h1 := h (vOf (tf tab) (tm tab) j i) (Nat.mod_lt _ (by omega))
      rw [hb.1 i hi, hb.2 i hi] at h1
      cases h1)
def qBo (tab : Tab) (a b : Nat) : Option Nat := fnd (fun c => fit tab a c && fit tab b c) (tC tab)
theorem qBo_lt {tab : Tab} {a b c : Nat} (h : qBo tab a b = some c) : c < tC tab := (fnd_lt h).1
theorem qAt_bo {tab : Tab} {a b : Nat} (h : ¬ tvv tab a = tvv tab b) : qAt tab a b = qBo tab a b := by rw [qAt, if_neg h]; rfl
def tri (R : Nat) : Nat → Nat
  | 0 => 0
  | a + 1 => tri R a + (R - 1 - a)
theorem tri_R : ∀ R, R ≤ 40 → tri R R = R * (R - 1) / 2 := by decide +kernel
theorem tri_m {R a : Nat} : ∀ k, tri R a ≤ tri R (a + k)
  | 0 => Nat.le_refl _
  | k + 1 => by have := tri_m (R := R) (a := a) k; rw [← Nat.add_assoc, tri]; omega
theorem qRow_l2 {tab : Tab} {a : Nat} : ∀ b, (qRow tab a b).length ≤ b - 1 - a
  | 0 => Nat.zero_le _
  | b + 1 => by
    have ih := qRow_l2 (tab := tab) (a := a) b
    rw [qRow, List.length_append]
    split
    · split
      · simp; omega
      · simp; omega
    · simp; omega
theorem qUp_l2 {tab : Tab} : ∀ a, (qUp tab a).length ≤ tri (tR tab) a
  | 0 => Nat.zero_le _
  | a + 1 => by
    have h1 := qUp_l2 (tab := tab) a
    have h2 := qRow_l2 (tab := tab) (a := a) (tR tab)
    rw [qUp, List.length_append, tri]
    omega
theorem q_room {tab : Tab} (hk : tabOK tab) {a b : Nat} (hab : a < b) (hb : b < tR tab) : (qUp tab a ++ qRow tab a b).length < tR tab * (tR tab - 1) / 2 := by
  have h1 := qUp_l2 (tab := tab) a
  have h2 := qRow_l2 (tab := tab) (a := a) b
  have h3 := tri_m (R := tR tab) (a := a + 1) (tR tab - (a + 1))
  rw [show a + 1 + (tR tab - (a + 1)) = tR tab by omega, tri, tri_R _ hk.2.2.2.2.2.2.1] at h3
  rw [List.length_append]
  omega
def QLs (iv : IV) (t : Nat) (l : List (Nat × Nat × Nat)) : Prop := iv t 10 = nI l.length ∧ ∀ k, k < l.length → iv (t + 14) k = nI (l.getD k (0, 0, 0)).1 ∧ iv (t + 15) k = nI (l.getD k (0, 0, 0)).2.1
theorem QLs.add {iv : IV} {t : Nat} {l : List (Nat × Nat × Nat)} (h : QLs iv t l) (a b c : Nat) : QLs (up2 (up2 (up2 iv (t + 14) l.length (nI a)) (t + 15) l.length (nI b)) t 10 (nI (l.length + 1))) t (l ++ [(a, b, c)]) := by
  refine ⟨by rw [List.length_append]; exact up2_s, fun k hk => ?_⟩
  by_cases hkl : k < l.length
  · rw [getD_app_lt hkl]
    exact ⟨by rw [up2_l (by omega), up2_l (by omega), up2_k (by omega)]; exact (h.2 k hkl).1, by rw [up2_l (by omega), up2_k (by omega), up2_l (by omega)]; exact (h.2 k hkl).2⟩
  · have : k = l.length := by rw [List.length_append, List.length_singleton] at hk; omega
    subst this
    rw [getD_app_eq]
    exact ⟨by rw [up2_l (by omega), up2_l (by omega), up2_s], by rw [up2_l (by omega), up2_s]⟩
theorem QLs.fr {iv iv' : IV} {t : Nat} {l : List (Nat × Nat × Nat)} {P : Nat → Nat → Prop} (h : QLs iv t l) (hF : Fr iv iv' P) (h1 : ¬ P t 10) (h2 : ∀ k, ¬ P (t + 14) k) (h3 : ∀ k, ¬ P (t + 15) k) : QLs iv' t l :=
  ⟨(hF _ _ h1).trans h.1, fun k hk => ⟨(hF _ _ (h2 k)).trans (h.2 k hk).1, (hF _ _ (h3 k)).trans (h.2 k hk).2⟩⟩
/-! idle -/
def idlI (tab : Tab) (r c : Nat) : Bool := decide (∀ d, d < c → frow tab d = some r → (frowX tab d r).map (tvv tab) = some (tvv tab r))
theorem idlI_0 {tab : Tab} {r : Nat} : idlI tab r 0 = true := decide_eq_true (fun d hd => absurd hd (Nat.not_lt_zero d))
theorem idlI_n {tab : Tab} {r c : Nat} (h : frow tab c ≠ some r) : idlI tab r (c + 1) = idlI tab r c := by
  unfold idlI
  apply decide_eq_decide.mpr
  exact ⟨fun h1 d hd => h1 d (by omega), fun h1 d hd hf => by
    by_cases hdc : d = c
    · subst hdc; exact absurd hf h
    · exact h1 d (by omega) hf⟩
theorem idlI_s {tab : Tab} {r c : Nat} (h : frow tab c = some r) : idlI tab r (c + 1) = (idlI tab r c && decide ((frowX tab c r).map (tvv tab) = some (tvv tab r))) := by
  unfold idlI
  rw [Bool.eq_iff_iff, Bool.and_eq_true, decide_eq_true_eq, decide_eq_true_eq, decide_eq_true_eq]
  exact ⟨fun h1 => ⟨fun d hd => h1 d (by omega), h1 c (by omega) h⟩, fun h1 d hd hf => by
    by_cases hdc : d = c
    · subst hdc; exact h1.2
    · exact h1.1 d (by omega) hf⟩
theorem frowX_F {tab : Tab} {c f : Nat} (h : frow tab c = some f) : frowX tab c f = fnF (fun r => fit tab r c) (f + 1) (tR tab) := by
  have h1 := fnd_lt h
  have e : (fun r => decide (r ≠ f) && fit tab r c) = (fun k => decide (f + 1 ≤ k) && fit tab k c) := by
    funext k
    rcases Nat.lt_trichotomy k f with h2 | h2 | h2
    · rw [h1.2.2 k h2, Bool.and_false, Bool.and_false]
    · subst h2; rw [decide_eq_false (by simp), decide_eq_false (by omega)]
    · rw [decide_eq_true (by omega), decide_eq_true (by omega)]
  unfold frowX fnF
  rw [e]
/-! ===== TERMS in the class ===== -/
/-- the CASE of a full TERM, -1 of another -/
def cof (tab : Tab) (q : Nat) : Int32 := if ful tab (tm tab) q = true then nI (cntN (ful tab (tm tab)) q) else -1
theorem cof_t {tab : Tab} {q : Nat} (h : ful tab (tm tab) q = true) : cof tab q = nI (cntN (ful tab (tm tab)) q) := if_pos h
theorem cof_f {tab : Tab} {q : Nat} (h : ¬ ful tab (tm tab) q = true) : cof tab q = -1 := if_neg h
def TmV (iv : IV) (u : Nat) (tab : Tab) : Prop := (∀ i, i < tm tab → iv (u + 1) i = nI (tf tab i) ∧ iv (u + 2) i = nI (st (g1 tab) (tm tab) i)) ∧ iv u 2 = nI (tT tab) ∧ (∀ i, i < tm tab → ∀ q, q < tT tab → iv (u + 4 + i) q = nI (vOf (g1 tab) (tm tab) q i)) ∧ (∀ q, q < tT tab → iv (u + 10) q = nI (tld tab q) ∧ iv (u + 11) q = cof tab q)
theorem TmV.fr {iv iv' : IV} {u : Nat} {tab : Tab} {P : Nat → Nat → Prop} (h : TmV iv u tab) (hF : Fr iv iv' P) (h0 : ¬ P u 2) (h1 : ∀ lb j, u + 1 ≤ lb → lb ≤ u + 11 → ¬ P lb j) (hm : tm tab ≤ 5) : TmV iv' u tab :=
  ⟨fun i hi => ⟨(hF _ _ (h1 _ _ (by omega) (by omega))).trans (h.1 i hi).1, (hF _ _ (h1 _ _ (by omega) (by omega))).trans (h.1 i hi).2⟩, (hF _ _ h0).trans h.2.1, fun i hi q hq => (hF _ _ (h1 _ _ (by omega) (by omega))).trans (h.2.2.1 i hi q hq), fun q hq => ⟨(hF _ _ (h1 _ _ (by omega) (by omega))).trans (h.2.2.2 q hq).1, (hF _ _ (h1 _ _ (by omega) (by omega))).trans (h.2.2.2 q hq).2⟩⟩
def fA (tab : Tab) (q : Nat) : Option Nat := fnd (fun i => (tAt tab q i).isNone) (tm tab)
theorem tAt_n {tab : Tab} {q i : Nat} : tAt tab q i = none ↔ vOf (g1 tab) (tm tab) q i = tf tab i := by
  unfold tAt
  constructor
  · intro h
    split at h
    · rename_i h1; exact h1
    · cases h
  · intro h; exact if_pos h
theorem tAt_v {tab : Tab} {q i : Nat} (h : ¬ vOf (g1 tab) (tm tab) q i = tf tab i) : tAt tab q i = some (vOf (g1 tab) (tm tab) q i) := by
  exact if_neg h
theorem fA_lt {tab : Tab} {q i : Nat} (h : fA tab q = some i) : i < tm tab ∧ tAt tab q i = none := by
  have := fnd_lt h
  exact ⟨this.1, Option.isNone_iff_eq_none.mp this.2.1⟩
theorem fA_ful {tab : Tab} {q : Nat} (h : fA tab q = none) : ful tab (tm tab) q = true := by
  unfold ful
  rw [allI_t]
  intro i hi
  rw [decide_eq_true_eq]
  intro h1
  unfold fA fnd at h
  rw [List.find?_eq_none] at h
  have := h i (List.mem_range.mpr hi)
  rw [tAt_n.mpr h1] at this
  exact this rfl
theorem fA_nful {tab : Tab} {q i : Nat} (h : fA tab q = some i) : ¬ ful tab (tm tab) q = true := fun hf => of_decide_eq_true ((allI_t _).mp hf i (fA_lt h).1) (tAt_n.mp (fA_lt h).2)
theorem vOf_inj {f : Nat → Nat} : ∀ m c d, c < prd f m → d < prd f m → (∀ i, i < m → vOf f m c i = vOf f m d i) → c = d
  | 0, c, d, hc, hd, _ => by rw [prd] at hc hd; omega
  | m + 1, c, d, hc, hd, h => by
    rw [prd] at hc hd
    have hf : 0 < f m := by
      rcases Nat.eq_zero_or_pos (f m) with h0 | h0
      · rw [h0, Nat.mul_zero] at hc; omega
      · exact h0
    have ih := vOf_inj m (c / f m) (d / f m) ((Nat.div_lt_iff_lt_mul hf).mpr hc) ((Nat.div_lt_iff_lt_mul hf).mpr hd) (fun i hi => by
      have := h i (by omega)
      rw [vOf_s, vOf_s, if_pos hi, if_pos hi] at this; exact this)
    have hm := h m (by omega)
    rw [vOf_s, vOf_s, if_neg (by omega), if_neg (by omega)] at hm
    rw [← Nat.div_add_mod c (f m), ← Nat.div_add_mod d (f m), ih, hm]
/-- the CASE of a full TERM -/
def kas (tab : Tab) (q : Nat) : Nat := cntN (ful tab (tm tab)) q
theorem kas_lt {tab : Tab} {q : Nat} (hq : q < tT tab) (h : fA tab q = none) : kas tab q < tC tab := ful_lt _ _ hq (fA_ful h)
theorem hld_t {tab : Tab} {q c : Nat} : hld tab q c = true ↔ ∀ i, i < tm tab → tAt tab q i = none ∨ tAt tab q i = some (vOf (tf tab) (tm tab) c i) := by
  unfold hld; rw [decide_eq_true_eq]
theorem hld_kas {tab : Tab} {q c : Nat} (hq : q < tT tab) (h : fA tab q = none) (hc : c < tC tab) : hld tab q c = true ↔ c = kas tab q := by
  have hf := fA_ful h
  have hv := ful_case (tab := tab) (fun _ => Or.inr trivial) (tm tab) q hf
  have hn : ∀ i, i < tm tab → ¬ vOf (g1 tab) (tm tab) q i = tf tab i := fun i hi => by
    have := (allI_t _).mp hf i hi
    exact of_decide_eq_true this
  rw [hld_t]
  constructor
  · intro h1
    refine vOf_inj (tm tab) _ _ hc (kas_lt hq h) (fun i hi => ?_)
    rcases h1 i hi with h2 | h2
    · exact absurd (tAt_n.mp h2) (hn i hi)
    · rw [tAt_v (hn i hi)] at h2
      exact (Option.some.inj h2).symm.trans (hv i hi).symm
  · intro h1 i hi
    right
    rw [tAt_v (hn i hi), h1]
    exact congrArg some (hv i hi).symm
/-- VALUES that some CASE of a TERM answers -/
def AV (tab : Tab) (q v : Nat) : Prop := ∃ c, c < tC tab ∧ hld tab q c = true ∧ ans tab c = some v
def onR (x : Int32) (P : Nat → Prop) : Prop := (x = -1 ∧ ∀ v, ¬ P v) ∨ (∃ v, x = nI v ∧ v < 6 ∧ P v ∧ ∀ w, P w → w = v) ∨ (x = -2 ∧ ∃ v w, v ≠ w ∧ P v ∧ P w)
theorem onR_c {x : Int32} {P Q : Nat → Prop} (h : onR x P) (e : ∀ v, P v ↔ Q v) : onR x Q := by
  have : P = Q := funext (fun v => propext (e v))
  rw [← this]; exact h
theorem onR_1 {x y : Int32} {P Q : Nat → Prop} (h : onR x P) (hx : x = -1) (h2 : onR y Q) : onR y (fun v => P v ∨ Q v) := by
  have hP : ∀ v, ¬ P v := by
    rcases h with h | ⟨v, h1, h3, -, -⟩ | h
    · exact h.2
    · rw [hx] at h1; exact absurd h1.symm (nI_ne_m1 (by omega))
    · rw [hx] at h; exact absurd h.1 (by decide)
  exact onR_c h2 (fun v => ⟨Or.inr, fun h => h.resolve_left (hP v)⟩)
theorem onR_2 {x y : Int32} {P Q : Nat → Prop} (h : onR x P) (h2 : onR y Q) (hy : y = -1) : onR x (fun v => P v ∨ Q v) :=
  onR_c (onR_1 h2 hy h) (fun v => Or.comm)
theorem onR_ne {x : Int32} {P : Nat → Prop} (h : onR x P) (hx : ¬ x = -1) : (∃ v, x = nI v ∧ P v) ∨ (∃ v w, v ≠ w ∧ P v ∧ P w) := by
  rcases h with h | ⟨v, h1, h3, h4, -⟩ | h
  · exact absurd h.1 hx
  · exact Or.inl ⟨v, h1, h4⟩
  · exact Or.inr h.2
theorem onR_3 {x y : Int32} {P Q S : Nat → Prop} (h : onR x P) (h2 : onR y Q) (hx : ¬ x = -1) (hy : ¬ y = -1) (hxy : ¬ y = x) (hS : ∀ v, P v ∨ Q v → S v) : onR (-2) S := by
  refine Or.inr (Or.inr ⟨rfl, ?_⟩)
  rcases onR_ne h hx with ⟨v, h1, h3⟩ | ⟨v, w, h1, h3, h4⟩
  · rcases onR_ne h2 hy with ⟨w, h4, h5⟩ | ⟨v, w, h4, h5, h6⟩
    · exact ⟨v, w, fun e => hxy (by rw [h4, h1, e]), hS v (Or.inl h3), hS w (Or.inr h5)⟩
    · exact ⟨v, w, h4, hS v (Or.inr h5), hS w (Or.inr h6)⟩
  · exact ⟨v, w, h1, hS v (Or.inl h3), hS w (Or.inl h4)⟩
theorem onR_4 {x : Int32} {P Q : Nat → Prop} (h : onR x P) (h2 : onR x Q) : onR x (fun v => P v ∨ Q v) := by
  rcases h with h | ⟨v, h1, h3, h4, h5⟩ | ⟨h1, v, w, h3, h4, h5⟩
  · exact onR_1 (Or.inl h) h.1 h2
  · rcases h2 with h2 | ⟨w, h6, h7, h8, h9⟩ | ⟨h6, -⟩
    · rw [h2.1] at h1; exact absurd h1.symm (nI_ne_m1 (by omega))
    · have e : v = w := (nI_eq (by omega) (by omega)).mp (h1.symm.trans h6)
      subst e
      exact Or.inr (Or.inl ⟨v, h1, h3, Or.inl h4, fun w hw => hw.elim (h5 w) (h9 w)⟩)
    · rw [h6] at h1
      exfalso
      have : ∀ v, v < 6 → (-2 : Int32) ≠ nI v := by decide
      exact this v h3 h1
  · exact Or.inr (Or.inr ⟨h1, v, w, h3, Or.inl h4, Or.inl h5⟩)
theorem AV_nrw {tab : Tab} (hk : tabOK tab) {q i v : Nat} (hi : i < tm tab) (hq : tAt tab q i = none) : AV tab q v ↔ ∃ u, u < tf tab i ∧ AV tab (nrw tab q i u) v := by
  have hf := hk.2.2.1 i hi
  constructor
  · rintro ⟨c, hc, h1, h2⟩
    have hlt : vOf (tf tab) (tm tab) c i < tf tab i := Nat.mod_lt _ (by omega)
    exact ⟨vOf (tf tab) (tm tab) c i, hlt, c, hc, by rw [hld_nrw hi hq hlt, h1, decide_eq_true rfl]; rfl, h2⟩
  · rintro ⟨u, hu, c, hc, h1, h2⟩
    rw [hld_nrw hi hq hu, Bool.and_eq_true] at h1
    exact ⟨c, hc, h1.1, h2⟩
theorem AV_kas {tab : Tab} (hk : tabOK tab) {q : Nat} (hq : q < tT tab) (h : fA tab q = none) : onR (oI (ans tab (kas tab q))) (AV tab q) := by
  have hl := kas_lt hq h
  cases ha : ans tab (kas tab q) with
  | none =>
    refine Or.inl ⟨rfl, ?_⟩
    rintro v ⟨c, hc, h1, h2⟩
    rw [(hld_kas hq h hc).mp h1, ha] at h2
    cases h2
  | some v =>
    have h6 := ans_lt hk ha
    have h7 := hk.2.2.2.2.2.1
    refine Or.inr (Or.inl ⟨v, rfl, by omega, ⟨_, hl, (hld_kas hq h hl).mpr rfl, ha⟩, ?_⟩)
    rintro w ⟨c, hc, h1, h2⟩
    rw [(hld_kas hq h hc).mp h1, ha] at h2
    exact (Option.some.inj h2).symm
/-- the reference's TERM-of is the class's only ANSWER -/
theorem toI_ch {tab : Tab} (hk : tabOK tab) {q : Nat} : ∀ n, (toI tab q n = nI 6 ∧ ∀ c, c < n → hld tab q c = true → ans tab c = none) ∨ (∃ v, v < 6 ∧ toI tab q n = nI v ∧ (∃ c, c < n ∧ hld tab q c = true ∧ ans tab c = some v) ∧ ∀ c, c < n → hld tab q c = true → ∀ w, ans tab c = some w → w = v) ∨ (toI tab q n = -1 ∧ ∃ v w, v ≠ w ∧ (∃ c, c < n ∧ hld tab q c = true ∧ ans tab c = some v) ∧ ∃ c, c < n ∧ hld tab q c = true ∧ ans tab c = some w)
  | 0 => Or.inl ⟨rfl, fun c hc => absurd hc (Nat.not_lt_zero c)⟩
  | n + 1 => by
    have ih := toI_ch hk (q := q) n
    have skip : (hld tab q n = true → ans tab n = none) → toI tab q (n + 1) = toI tab q n := fun h => by
      rw [toI]
      cases ha : ans tab n with
      | none => rfl
      | some v =>
        simp only
        rw [if_neg (fun hh => by rw [h hh] at ha; cases ha)]
    by_cases hs : hld tab q n = true → ans tab n = none
    · rw [skip hs]
      rcases ih with ⟨h1, h2⟩ | ⟨v, h1, h2, ⟨c, h3, h4⟩, h5⟩ | ⟨h1, v, w, h2, ⟨c, h3, h4⟩, ⟨d, h5, h6⟩⟩
      · exact Or.inl ⟨h1, fun c hc hh => by
          by_cases hcn : c = n
          · subst hcn; exact hs hh
          · exact h2 c (by omega) hh⟩
      · exact Or.inr (Or.inl ⟨v, h1, h2, ⟨c, by omega, h4⟩, fun c hc hh w hw => by
          by_cases hcn : c = n
          · subst hcn; rw [hs hh] at hw; cases hw
          · exact h5 c (by omega) hh w hw⟩)
      · exact Or.inr (Or.inr ⟨h1, v, w, h2, ⟨c, by omega, h4⟩, ⟨d, by omega, h6⟩⟩)
    · have hh : hld tab q n = true := Classical.byContradiction (fun h => hs (fun h2 => absurd h2 h))
      obtain ⟨v, ha⟩ : ∃ v, ans tab n = some v := by
        cases ha : ans tab n with
        | none => exact absurd (fun _ => ha) hs
        | some v => exact ⟨v, rfl⟩
      have h6 := ans_lt hk ha
      have h7 := hk.2.2.2.2.2.1
      have e : toI tab q (n + 1) = if toI tab q n = nI 6 ∨ toI tab q n = nI v then nI v else -1 := by
        rw [toI, ha]; simp only; rw [if_pos hh]
      rw [e]
      rcases ih with ⟨h1, h2⟩ | ⟨w, h1, h2, ⟨c, h3, h4⟩, h5⟩ | ⟨h1, u, w, h2, ⟨c, h3, h4⟩, ⟨d, h5, h8⟩⟩
      · rw [if_pos (Or.inl h1)]
        exact Or.inr (Or.inl ⟨v, by omega, rfl, ⟨n, by omega, hh, ha⟩, fun c hc hh w hw => by
          by_cases hcn : c = n
          · subst hcn; rw [ha] at hw; exact (Option.some.inj hw).symm
          · rw [h2 c (by omega) hh] at hw; cases hw⟩)
      · by_cases hvw : w = v
        · subst hvw
          rw [if_pos (Or.inr h2)]
          exact Or.inr (Or.inl ⟨w, h1, rfl, ⟨c, by omega, h4⟩, fun c hc hh x hx => by
            by_cases hcn : c = n
            · subst hcn; rw [ha] at hx; exact (Option.some.inj hx).symm
            · exact h5 c (by omega) hh x hx⟩)
        · rw [if_neg (by
            rw [h2, nI_eq (by omega) (by omega), nI_eq (by omega) (by omega)]; omega)]
          exact Or.inr (Or.inr ⟨rfl, w, v, hvw, ⟨c, by omega, h4⟩, ⟨n, by omega, hh, ha⟩⟩)
      · rw [if_neg (by
          rw [h1]
          rintro (h | h)
          · exact nI_ne_m1 (by decide) h.symm
          · exact nI_ne_m1 (by omega) h.symm)]
        exact Or.inr (Or.inr ⟨rfl, u, w, h2, ⟨c, by omega, h4⟩, ⟨d, by omega, h8⟩⟩)
theorem onR_eq {tab : Tab} (hk : tabOK tab) {q of : Nat} {x : Int32} (h : onR x (AV tab q)) (ho : of ≤ 6) : x = oI (wnt of) ↔ toI tab q (tC tab) = nI of := by
  unfold wnt
  have m2 : ∀ v, v < 6 → (-2 : Int32) ≠ nI v := by decide
  rcases toI_ch hk (q := q) (tC tab) with ⟨h1, h2⟩ | ⟨v, h1, h2, ⟨c, h3, h4, h8⟩, h5⟩ | ⟨h1, v, w, h2, h3, h4⟩
  · have hn : ∀ v, ¬ AV tab q v := by
      rintro v ⟨c, hc, h3, h4⟩
      rw [h2 c hc h3] at h4; cases h4
    have hx : x = -1 := by
      rcases h with h | ⟨v, -, -, h3, -⟩ | ⟨-, v, w, -, h3, -⟩
      · exact h.1
      · exact absurd h3 (hn v)
      · exact absurd h3 (hn v)
    rw [hx, h1, nI_eq (by decide) (by omega)]
    by_cases h6 : of = 6
    · rw [if_pos h6]; exact ⟨fun _ => h6.symm, fun _ => rfl⟩
    · rw [if_neg h6]; exact ⟨fun h => absurd h.symm (nI_ne_m1 (by omega)), fun h => absurd h.symm h6⟩
  · have hx : x = nI v := by
      rcases h with h | ⟨w, h6, -, h7, h9⟩ | ⟨-, a, b, h6, ⟨d, hd, h7, h9⟩, ⟨d2, hd2, h72, h92⟩⟩
      · exact absurd ⟨c, h3, h4, h8⟩ (h.2 v)
      · rw [h6, h9 v ⟨c, h3, h4, h8⟩]
      · exact absurd ((h5 d hd h7 a h9).trans (h5 d2 hd2 h72 b h92).symm) h6
    rw [hx, h2, nI_eq (by omega) (by omega)]
    by_cases h6 : of = 6
    · rw [if_pos h6]; exact ⟨fun h => absurd h (nI_ne_m1 (by omega)), fun h => by omega⟩
    · rw [if_neg h6]; exact nI_eq (by omega) (by omega)
  · have hx : x = -2 := by
      rcases h with h | ⟨a, h6, -, h7, h9⟩ | h
      · exact absurd h3 (h.2 v)
      · exact absurd ((h9 v h3).trans (h9 w h4).symm) h2
      · exact h.1
    rw [hx, h1]
    refine ⟨fun h => ?_, fun h => absurd h.symm (nI_ne_m1 (by omega))⟩
    by_cases h6 : of = 6
    · rw [if_pos h6] at h; exact absurd h (by decide)
    · rw [if_neg h6] at h; exact absurd h (m2 of (by omega))
theorem LAY.sz {iv : IV} {jv : JV} {b : Nat} {tab : Tab} (h : LAY iv jv b tab) {i : Nat} (hi : i < tm tab) : iv (b + 10 + 2 * i) 1 = nI (tf tab i) := by
  unfold tf; rw [szs_get]; exact (h.1.2.2.2 i hi).2.2.1
theorem LAY.mks {iv : IV} {jv : JV} {b : Nat} {tab : Tab} (h : LAY iv jv b tab) {k : Nat} (hk : k < tR tab) : ∃ A : Nat → Nat, ∀ i, i < tm tab → iv (b + 30 + 1) (k * 5 + i) = nI (A i) ∧ A i < 64 ∧ ∀ v, v < tf tab i → (A i).testBit v = (tce tab k i).testBit v :=
  skol (P := fun i a => iv (b + 30 + 1) (k * 5 + i) = nI a ∧ a < 64 ∧ ∀ v, v < tf tab i → a.testBit v = (tce tab k i).testBit v) (h.2.2.2.2 k hk).1
