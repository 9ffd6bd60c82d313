theorem onM_f {a : AS} {x : Int32} {n : Nat} {f : Option Nat → RS} (h1 : x ≠ -1) (h2 : inI x n = false) : onM a x n f = no 1 a := by rw [onM, if_neg h1, onK_f h2]
theorem onM_n {a : AS} {x : Int32} {n : Nat} {f : Option Nat → RS} (h1 : x = -1) : onM a x n f = f none := by rw [onM, if_pos h1]
theorem onM_s {a : AS} {j n : Nat} {f : Option Nat → RS} (h : j < n) (hn : n < 2147483648) : onM a (nI j) n f = f (some j) := by rw [onM, if_neg (nI_ne_m1 (by omega)), onK_t h hn]
theorem m1_lt {x : Int32} (h : x < -1) : x ≠ -1 ∧ x < 0 := by
  have e : (-1 : Int32).toInt = -1 := by decide
  have e0 : (0 : Int32).toInt = 0 := by decide
  rw [Int32.lt_iff_toInt_lt, e] at h
  refine ⟨fun h2 => ?_, ?_⟩
  · rw [h2, e] at h; omega
  · rw [Int32.lt_iff_toInt_lt, e0]; omega
theorem m1_ge {x : Int32} {n : Nat} (hn : n < 2147483648) (h : ¬ x < nI n) : x ≠ -1 := fun h2 => by
  have h := nlt_le h
  rw [h2, Int32.le_iff_toInt_le, nI_toInt hn] at h
  have e : (-1 : Int32).toInt = -1 := by decide
  omega
theorem m1_in {x : Int32} {n : Nat} (hn : n < 2147483648) (h1 : ¬ x < -1) (h2 : x < nI n) (h3 : ¬ x = -1) : ∃ j, j < n ∧ x = nI j := by
  have e : (-1 : Int32).toInt = -1 := by decide
  have e0 : (0 : Int32).toInt = 0 := by decide
  have h0 : ¬ x < 0 := fun h0 => by
    rw [Int32.lt_iff_toInt_lt, e0] at h0
    rw [Int32.lt_iff_toInt_lt, e] at h1
    exact h3 (Int32.toInt_inj.mp (by omega))
  exact inI_of hn (inI_t h0 (lt_nle h2))
theorem tka_lt {tab : Tab} {of : Nat} : ∀ (f : Nat) (held : Nat → Bool), ∀ q ∈ tka tab of f held, q < tT tab
  | 0, _, q, h => by simp [tka] at h
  | f + 1, held, q, h => by
    unfold tka at h
    cases hb : bst tab of held with
    | none => rw [hb] at h; cases h
    | some t =>
      rw [hb] at h
      rcases List.mem_cons.mp h with rfl | h
      · exact (bsI_g (tT tab) q hb).1
      · exact tka_lt f _ q h
theorem ruleU_lt {tab : Tab} : ∀ (v : Nat), ∀ x ∈ ruleU tab v, x.1 < tT tab ∧ x.2 < v
  | 0, x, h => by cases h
  | v + 1, x, h => by
    unfold ruleU at h
    rcases List.mem_append.mp h with h | h
    · have := ruleU_lt v x h; exact ⟨this.1, by omega⟩
    · obtain ⟨t, ht, rfl⟩ := List.mem_map.mp h
      exact ⟨tka_lt 400 _ t ht, by show v < v + 1; omega⟩
theorem rule_lt {tab : Tab} {i : Nat} (h : i < (rule tab).length) : ((rule tab).getD i (0, 0)).1 < tT tab ∧ ((rule tab).getD i (0, 0)).2 < tO tab := ruleU_lt (tO tab) _ (mem_getD' h)
theorem offers_lt {tab : Tab} {i : Nat} (h : i < (offers tab).length) : (offers tab).getD i 0 < tT tab := tka_lt 400 _ _ (mem_getD' h)
/-! bytes of OUT -/
def b7 (w : List Nat) : Prop := ∀ c ∈ w, c < 128
theorem b7_app {u w : List Nat} (h1 : b7 u) (h2 : b7 w) : b7 (u ++ w) := fun c hc => by
  rcases List.mem_append.mp hc with h | h
  · exact h1 c h
  · exact h2 c h
theorem isWS_7 {c : Nat} (h : isWS c = true) : c < 128 := by
  simp only [isWS, Bool.or_eq_true, Bool.and_eq_true, decide_eq_true_eq] at h; omega
theorem wOK_7 {w : Wd} (h : wOK w) : b7 w := fun c hc => by
  obtain ⟨j, hj, rfl⟩ := (mem_getD (d := 0)).mp hc
  exact isWS_7 (h.2.2 j hj)
theorem sW_7 : ∀ i, i < 30 → (sW i).all (fun c => decide (c < 128)) = true := by decide +kernel
theorem sW_b7 {i : Nat} (h : i < 30) : b7 (sW i) := fun c hc => of_decide_eq_true (List.all_eq_true.mp (sW_7 i h) c hc)
theorem mOu.add {iv : IV} {o : List Nat} {c : Nat} (h : mOu iv o) (hl : o.length + 1 < 1000000) (hc : c < 128) (h2 : o.length < 2000 → iv 2 o.length = nI c) {v : Int32} (hv : v = nI (o.length + 1)) : mOu (up2 iv 0 4 v) (o ++ [c]) := by
  subst hv
  refine ⟨by rw [List.length_append]; exact up2_s, by rw [List.length_append]; exact hl, fun k hk hk2 => ?_⟩
  rw [up2_l (by decide)]
  by_cases hko : k < o.length
  · rw [getD_app_lt hko]; exact h.2.2 k hko hk2
  · have : k = o.length := by rw [List.length_append, List.length_singleton] at hk; omega
    subst this
    rw [getD_app_eq]; exact ⟨h2 hk2, hc⟩
abbrev pO : Nat → Nat → Prop := fun lb j => (lb = 0 ∧ j = 4) ∨ lb = 2
/-- the VALUES' and NAMES' words of a TABLE -/
theorem tabW_nm {tab : Tab} (h : tabW tab) {i : Nat} (hi : i < tm tab) : wOK (tab.1.getD i dC0).1 := (h.1.2.2.2.2 i hi).1
theorem tabW_v {tab : Tab} (h : tabW tab) {i v : Nat} (hi : i < tm tab) (hv : v < tf tab i) : wOK ((tab.1.getD i dC0).2.getD v []) := (h.1.2.2.2.2 i hi).2 _ (mem_getD' (by unfold tf at hv; rw [szs_get] at hv; exact hv))
theorem tabW_o {tab : Tab} (h : tabW tab) {v : Nat} (hv : v < tO tab) : wOK (tab.2.1.getD v []) := h.2.1 _ (mem_getD' hv)
theorem tcI_len {tab : Tab} (hW : tabW tab) (hk : tabOK tab) {t : Nat} : ∀ i, i ≤ tm tab → (tcI tab t i).length ≤ 25 * i
  | 0, _ => Nat.le_refl 0
  | i + 1, hi => by
    have ih := tcI_len hW hk (t := t) i (by omega)
    unfold tcI
    cases ht : tAt tab t i with
    | none => simp; omega
    | some v =>
      have h1 := (tabW_nm hW (show i < tm tab by omega)).1
      have h2 := (tabW_v hW (show i < tm tab by omega) (tAt_lt hk (by omega) ht)).1
      have h3 : (if tcI tab t i = [] then sW 26 else sW 27).length ≤ 5 := by split <;> decide
      have h4 : (sW 28).length = 4 := by decide
      simp only [List.length_append]
      omega
theorem tLn_len {tab : Tab} (hW : tabW tab) (hk : tabOK tab) {x : Nat × Nat} (hx : x.2 < tO tab) : (tLn tab x).length ≤ 150 := by
  have h1 := (tabW_o hW hx).1
  have h2 := tcI_len hW hk (t := x.1) (tm tab) (Nat.le_refl _)
  have h3 := hk.2.1
  have h4 : (sW 29).length ≤ 10 := by decide
  unfold tLn
  simp only [List.length_append, List.length_singleton]
  split <;> omega
theorem tTx_len {tab : Tab} (hW : tabW tab) (hk : tabOK tab) : ∀ k, k ≤ (rule tab).length → (tTx tab k).length ≤ 150 * k
  | 0, _ => Nat.le_refl 0
  | k + 1, h => by
    have ih := tTx_len hW hk k (by omega)
    have h1 := tLn_len hW hk (rule_lt (tab := tab) (i := k) (by omega)).2
    unfold tTx
    rw [List.length_append]; omega
theorem tcI_n {tab : Tab} {t i : Nat} (h : tAt tab t i = none) : tcI tab t (i + 1) = tcI tab t i := by rw [tcI, h]; simp
theorem tcI_s {tab : Tab} {t i v : Nat} (h : tAt tab t i = some v) : tcI tab t (i + 1) = tcI tab t i ++ ((if tcI tab t i = [] then sW 26 else sW 27) ++ (tab.1.getD i dC0).1 ++ sW 28 ++ (tab.1.getD i dC0).2.getD v []) := by rw [tcI, h]
theorem tcI_ne {tab : Tab} {t i v : Nat} (h : tAt tab t i = some v) : ¬ tcI tab t (i + 1) = [] := by
  rw [tcI_s h]
  intro h2
  have h3 := congrArg List.length h2
  have h4 : (sW 28).length = 4 := by decide
  simp only [List.length_append, List.length_nil] at h3
  omega
/-- the reference's TABLE with its RULE laid out -/
def TL (iv : IV) (T : Nat) (tab : Tab) : Prop := FT iv T tab ∧ LY iv T tab
theorem TL.fr {iv iv' : IV} {T : Nat} {tab : Tab} (h : TL iv T tab) (hF : Fr iv iv' pO) : TL iv' T tab :=
  ⟨h.1.fr2 hF (fun lb j _ _ => by simp only [pO]; omega), h.2.fr h.1.2.1 hF (by simp) (by simp) (fun lb j h _ _ => by simp only [pO]; omega)⟩
theorem FT.nm {iv : IV} {T : Nat} {tab : Tab} (h : FT iv T tab) {i : Nat} (hi : i < tm tab) : SW iv (42 * T + 7 * i + 0) (tab.1.getD i dC0).1 := (h.1.1.2.2.1 i hi).1
theorem FT.vl {iv : IV} {T : Nat} {tab : Tab} (h : FT iv T tab) {i v : Nat} (hi : i < tm tab) (hv : v < tf tab i) : SW iv (42 * T + 7 * i + (1 + v)) ((tab.1.getD i dC0).2.getD v []) := (h.1.1.2.2.1 i hi).2.2.2 v (by unfold tf at hv; rw [szs_get] at hv; exact hv)
theorem FT.ov {iv : IV} {T : Nat} {tab : Tab} (h : FT iv T tab) {v : Nat} (hv : v < tO tab) : SW iv (42 * T + 7 * 5 + (1 + v)) (tab.2.1.getD v []) := h.1.2.2.1.2.2 v hv
theorem MSt.out {iv iv' : IV} {a : AS} {o : List Nat} (h : MSt iv a) (hF : Fr iv iv' pO) (ho : mOu iv' o) : MSt iv' (aN a, aY a, aF a, aT a, aP a, o) :=
  ⟨h.1.fr hF (by simp) (fun k => by simp), (hF 0 5 (by simp)).trans h.2.1, h.2.2.1.fr hF (by simp) (fun lb j _ _ => by simp only [pO]; omega) (fun lb j _ _ => by simp only [pO]; omega), h.2.2.2.1.fr hF (by simp) (fun lb j _ _ => by simp only [pO]; omega), ho⟩
theorem take_s {w : List Nat} {k : Nat} (h : k < w.length) : w.take (k + 1) = w.take k ++ [w.getD k 0] := by
  rw [List.take_add_one, List.getD_eq_getElem?_getD, List.getElem?_eq_getElem h]; rfl
theorem fnd_s {p : Nat → Bool} {n : Nat} : fnd p (n + 1) = (match fnd p n with | some q => some q | none => if p n = true then some n else none) := by
  cases h : fnd p n with
  | some q =>
    have := fnd_lt h
    exact fnd_some (by omega) this.2.1 this.2.2
  | none =>
    have hn : ∀ j, j < n → p j = false := fun j hj => by
      unfold fnd at h
      rw [List.find?_eq_none] at h
      have := h j (List.mem_range.mpr hj)
      simpa using this
    simp only
    split
    · rename_i h1; exact fnd_some (by omega) h1 hn
    · rename_i h1
      exact fnd_none (fun j hj => by
        by_cases hjn : j = n
        · subst hjn; simpa using h1
        · exact hn j (by omega))
theorem fnd_n {p : Nat → Bool} {n : Nat} (h : p n = false) : fnd p (n + 1) = fnd p n := by
  rw [fnd_s]; cases fnd p n <;> simp [h]
theorem fnd_t {p : Nat → Bool} {n : Nat} (h : p n = true) (h2 : fnd p n = none) : fnd p (n + 1) = some n := by
  rw [fnd_s, h2]; simp [h]
theorem fnd_k {p : Nat → Bool} {n q : Nat} (h2 : fnd p n = some q) : fnd p (n + 1) = some q := by rw [fnd_s, h2]
