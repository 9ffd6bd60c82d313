theorem LR.kd {iv : IV} {jv : JV} {B : Nat → Nat} {n : Nat} {t : Tok} (h : LR iv jv B n t) : iv 103 5 = nI (kdT B t) := by obtain ⟨-, -, k, -, -, -, h, -⟩ := h; exact h
theorem LR.pl {iv : IV} {jv : JV} {B : Nat → Nat} {n : Nat} {t : Tok} (h : LR iv jv B n t) : iv 103 6 = nI (tb t) := by obtain ⟨-, -, k, -, -, -, -, h, -⟩ := h; exact h
theorem LR.wo {iv : IV} {jv : JV} {B : Nat → Nat} {n : Nat} {t : Tok} (h : LR iv jv B n t) : jv 103 7 = encT B t := by obtain ⟨-, -, k, -, -, -, -, -, h⟩ := h; exact h
theorem LR.wf {iv : IV} {jv : JV} {B : Nat → Nat} {n : Nat} {t : Tok} (h : LR iv jv B n t) (hf : frF B t = 0) : jv 103 7 = enc (wd B t) := h.wo.trans (if_pos (frF_0 hf).1)
abbrev pZ : Nat → Nat → Prop := fun lb j => (lb = 102 ∧ j = 1) ∨ (lb = 103 ∧ 4 ≤ j ∧ j ≤ 6)
abbrev qZ : Nat → Nat → Prop := fun lb j => lb = 103 ∧ j = 7
theorem LR.up {iv : IV} {jv : JV} {B : Nat → Nat} {n : Nat} {t : Tok} (h : LR iv jv B n t) {lb k : Nat} {v : Int32} (h3 : lb ≠ 103) (h4 : lb ≠ 104) (h5 : lb ≠ 105) : LR (up2 iv lb k v) jv B n t :=
  h.fr (P := fun b _ => b = lb) (Q := fun _ _ => False) (Fr.up Fr.rf rfl) FrJ.rf (fun _ h => h3 h.symm) (fun _ h => h4 h.symm) (fun _ h => h5 h.symm) (fun _ h => h) (fun h => h)
theorem LR.upj {iv : IV} {jv : JV} {B : Nat → Nat} {n : Nat} {t : Tok} (h : LR iv jv B n t) {lb k : Nat} {v : Int64} (h3 : lb ≠ 103) (h4 : lb ≠ 106) : LR iv (up2 jv lb k v) B n t :=
  h.fr (P := fun _ _ => False) (Q := fun b _ => b = lb) Fr.rf (FrJ.up FrJ.rf rfl) (fun _ h => h) (fun _ h => h) (fun _ h => h) (fun _ h => h4 h.symm) (fun h => h3 h.symm)
theorem LR.k16 {iv : IV} {jv : JV} {B : Nat → Nat} {n : Nat} {t : Tok} (h : LR iv jv B n t) : kdT B t ≤ 16 := kdT_le h.tv
def tH (B : Nat → Nat) (vs : List Wd) (t : Tok) : Nat × Option Nat := if frF B t ≠ 0 then (frF B t, none) else match ixW vs (wd B t) with
  | none => (3, none)
  | some v => (0, some v)
theorem tH_f {B : Nat → Nat} {vs : List Wd} {t : Tok} (h : frF B t ≠ 0) : tH B vs t = (frF B t, none) := if_pos h
theorem tH_n {B : Nat → Nat} {vs : List Wd} {t : Tok} (h : frF B t = 0) (hx : ixW vs (wd B t) = none) : tH B vs t = (3, none) := by rw [tH, if_neg (by simp [h]), hx]
theorem tH_s {B : Nat → Nat} {vs : List Wd} {t : Tok} {v : Nat} (h : frF B t = 0) (hx : ixW vs (wd B t) = some v) : tH B vs t = (0, some v) := by rw [tH, if_neg (by simp [h]), hx]
theorem tH_c {B : Nat → Nat} {vs : List Wd} {t : Tok} : (∃ v, v < vs.length ∧ frF B t = 0 ∧ ixW vs (wd B t) = some v ∧ tH B vs t = (0, some v)) ∨ ((tH B vs t).1 ≠ 0 ∧ (tH B vs t).2 = none ∧ (tH B vs t).1 ≤ 3) := by
  by_cases h : frF B t = 0
  · cases hx : ixW vs (wd B t) with
    | none => right; rw [tH_n h hx]; exact ⟨by decide, rfl, by decide⟩
    | some v => left; exact ⟨v, (ixW_lt hx).1, h, rfl, tH_s h hx⟩
  · right; rw [tH_f h]; exact ⟨h, rfl, Nat.le_trans frF_le (by decide)⟩
theorem rdV_tH {B : Nat → Nat} {n : Nat} {vs : List Wd} {t : Tok} (h : (tH B vs t).1 ≠ 0) : rdV B n vs 0 t = ((tH B vs t).1, 0, t) := by
  unfold rdV
  rw [if_neg (by simp)]
  by_cases hf : frF B t = 0
  · rw [if_neg (by simp [hf])]
    cases hx : ixW vs (wd B t) with
    | none => rw [tH_n hf hx]
    | some v => rw [tH_s hf hx] at h; exact absurd rfl h
  · rw [if_pos hf, tH_f hf]
theorem rdV_tS {B : Nat → Nat} {n : Nat} {vs : List Wd} {t : Tok} {v : Nat} (h : frF B t = 0) (hx : ixW vs (wd B t) = some v) : rdV B n vs 0 t = (0, v, nx B n t) := by
  rw [rdV, if_neg (by simp), if_neg (by simp [h]), hx]
theorem rdVals_01 {B : Nat → Nat} {n : Nat} : ∀ (f : Nat) (acc : List Wd) (t : Tok), acc.length + f ≤ 100 → rdVals B n 1 f acc t = rdVals B n 0 f acc t
  | 0, _, _, _ => rfl
  | f + 1, acc, t, h => by
    unfold rdVals
    have e : (acc.length = 6 ∨ 400 < 1 * (acc.length + 1)) ↔ (acc.length = 6 ∨ 400 < 0 * (acc.length + 1)) := by omega
    simp only [e]
    rw [rdVals_01 f (acc ++ [wd B t]) (nx B n t) (by simp; omega)]
theorem rdCol_01 {B : Nat → Nat} {n : Nat} {nms : List Wd} {t : Tok} : rdCol B n nms 1 t = rdCol B n nms 0 t := by
  simp only [rdCol]
  rw [rdVals_01 8 [] _ (by decide)]
/-- INPUTS in a Layout -/
def LI (iv : IV) (jv : JV) (b : Nat) (ins : List Col) : Prop := iv b 0 = nI ins.length ∧ iv b 1 = nI (csz (szs ins)) ∧ ins.length ≤ 5 ∧ ∀ i, i < ins.length → jv (b + 10 + 2 * i) 0 = enc (ins.getD i dC0).1 ∧ wOK (ins.getD i dC0).1 ∧ CV iv jv (b + 10 + 2 * i) (ins.getD i dC0).2
theorem LI.fr {iv iv' : IV} {jv jv' : JV} {b : Nat} {ins : List Col} {P Q : Nat → Nat → Prop} (h : LI iv jv b ins) (hF : Fr iv iv' P) (hJ : FrJ jv jv' Q) (h0 : ∀ j, ¬ P b j) (h1 : ∀ i, i < ins.length → (∀ j, ¬ P (b + 10 + 2 * i) j) ∧ (∀ j, ¬ Q (b + 10 + 2 * i) j) ∧ ∀ j, ¬ Q (b + 10 + 2 * i + 1) j) : LI iv' jv' b ins :=
  ⟨(hF _ _ (h0 0)).trans h.1, (hF _ _ (h0 1)).trans h.2.1, h.2.2.1, fun i hi => ⟨(hJ _ _ ((h1 i hi).2.1 0)).trans (h.2.2.2 i hi).1, (h.2.2.2 i hi).2.1, (h.2.2.2 i hi).2.2.fr hF hJ ((h1 i hi).1 1) (h1 i hi).2.2⟩⟩
abbrev nmsOf (ins : List Col) : List Wd := ins.map (fun c => c.1)
theorem nx_ne {B : Nat → Nat} {n : Nat} {t : Tok} {k : Nat} (hv : TV B n t) (h : kdT B t = k) (hk : k ≠ 15) : tk t ≠ 0 := fun h0 => by rw [kdT_0 h0] at h; omega
theorem fr_ne {B : Nat → Nat} {t : Tok} (h : frF B t = 0) : tk t ≠ 0 := by rw [(frF_0 h).1]; decide
abbrev pCo (c : Nat) : Nat → Nat → Prop := fun lb j => pZ lb j ∨ (lb = c ∧ j = 1)
abbrev qCv (c : Nat) : Nat → Nat → Prop := fun lb j => qZ lb j ∨ lb = c + 1
abbrev qCo (c : Nat) : Nat → Nat → Prop := fun lb j => qZ lb j ∨ lb = c + 1 ∨ (lb = c ∧ j = 0)
theorem rdVals_ad {B : Nat → Nat} {n a : Nat} {acc : List Wd} {t : Tok} (h : acc.length ≤ 6) : rdVals B n a (8 - acc.length) acc t = (if 2 ≤ acc.length ∧ tk t = 2 ∧ ts t = 59 then (0, acc, nx B n t) else if frF B t ≠ 0 then (frF B t, acc, t) else if acc.length = 6 ∨ 400 < a * (acc.length + 1) then (2, acc, t) else if wd B t ∈ acc then (4, acc, t) else rdVals B n a (8 - (acc ++ [wd B t]).length) (acc ++ [wd B t]) (nx B n t)) := rdVals_go h
