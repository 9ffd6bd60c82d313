/-! words -/
abbrev Wd : Type := List Nat
def sW (i : Nat) : Wd := (sT.getD i ("", 0, "")).2.2.toList.map Char.toNat
theorem sW_len : ∀ i, i < 30 → (sW i).length = sLen i := by decide +kernel
theorem sW_get (i j : Nat) : (sW i).getD j 0 = sB i j := rfl
def wd (B : Nat → Nat) (t : Tok) : Wd := (List.range (te t - tb t)).map (fun i => B (tb t + i))
theorem wd_len {B : Nat → Nat} {t : Tok} : (wd B t).length = te t - tb t := by simp [wd]
theorem wd_get {B : Nat → Nat} {t : Tok} {j : Nat} (h : j < te t - tb t) : (wd B t).getD j 0 = B (tb t + j) := by
  simp [wd, List.getD_eq_getElem?_getD, h]
theorem wd_eq {B : Nat → Nat} {t : Tok} {w : Wd} : wd B t = w ↔ te t - tb t = w.length ∧ ∀ j, j < w.length → B (tb t + j) = w.getD j 0 := by
  constructor
  · rintro rfl
    exact ⟨wd_len.symm, fun j hj => (wd_get (by rw [wd_len] at hj; exact hj)).symm⟩
  · rintro ⟨h1, h2⟩
    apply List.ext_getElem?
    intro i
    by_cases hi : i < w.length
    · have e1 := wd_get (B := B) (t := t) (j := i) (by omega)
      have e2 := h2 i hi
      rw [List.getD_eq_getElem?_getD] at e1 e2
      have l1 : i < (wd B t).length := by rw [wd_len]; omega
      rw [List.getElem?_eq_getElem l1, List.getElem?_eq_getElem hi] at *
      simp only [Option.getD_some] at e1 e2
      rw [e1, e2]
    · rw [List.getElem?_eq_none (by rw [wd_len]; omega), List.getElem?_eq_none (by omega)]
/-- KEYWORDS -/
def kws : List Wd := [sW 20, sW 19, sW 21, sW 22, sW 23, sW 24, sW 25]
/-- a sign, a certain word -/
def sg (bad : Nat) (t : Tok) (c : Nat) : Bool := decide (bad = 0 ∧ tk t = 2 ∧ ts t = c)
def kw (B : Nat → Nat) (bad : Nat) (t : Tok) (i : Nat) : Bool := decide (bad = 0 ∧ tk t = 1 ∧ wd B t = sW i)
/-- the FAULT of a TOKEN that must be a NAME or VALUE, 0 without -/
def frF (B : Nat → Nat) (t : Tok) : Nat := if ¬ tk t = 1 ∨ wd B t ∈ kws then 1 else if 8 < te t - tb t then 2 else 0
theorem frF_le {B : Nat → Nat} {t : Tok} : frF B t ≤ 2 := by unfold frF; split <;> (try split) <;> omega
theorem frF_0 {B : Nat → Nat} {t : Tok} (h : frF B t = 0) : tk t = 1 ∧ wd B t ∉ kws ∧ te t - tb t ≤ 8 := by
  unfold frF at h
  split at h
  · omega
  · split at h
    · omega
    · rename_i h1 h2
      exact ⟨Classical.not_not.mp fun h => h1 (Or.inl h), fun h => h1 (Or.inr h), by omega⟩
abbrev pQ : Nat → Nat → Prop := fun lb j => lb = 0 ∧ 29 ≤ j ∧ j ≤ 36 ∧ j ≠ 30
/-- the reference reads: the text, the TOKEN looked at, the FAULT found -/
def MP (iv : IV) (B : Nat → Nat) (n bad : Nat) (t : Tok) : Prop := TX iv B n ∧ TR iv t ∧ TV B n t ∧ iv 0 35 = nI bad ∧ bad ≤ 4 ∧ (bad ≠ 0 → iv 0 36 = nI (tb t))
theorem TR.fr {iv iv' : IV} {t : Tok} {P : Nat → Nat → Prop} (h : TR iv t) (hF : Fr iv iv' P) (h1 : ∀ j, 29 ≤ j → j ≤ 36 → ¬ P 0 j) : TR iv' t :=
  ⟨(hF 0 29 (h1 29 (by decide) (by decide))).trans h.1, (hF 0 31 (h1 31 (by decide) (by decide))).trans h.2.1, (hF 0 32 (h1 32 (by decide) (by decide))).trans h.2.2.1, (hF 0 33 (h1 33 (by decide) (by decide))).trans h.2.2.2.1, (hF 0 34 (h1 34 (by decide) (by decide))).trans h.2.2.2.2⟩
theorem MP.fr {iv iv' : IV} {B : Nat → Nat} {n bad : Nat} {t : Tok} {P : Nat → Nat → Prop} (h : MP iv B n bad t) (hF : Fr iv iv' P) (h1 : ∀ j, 29 ≤ j → j ≤ 36 → ¬ P 0 j) (h2 : ∀ k, ¬ P 1 k) : MP iv' B n bad t :=
  ⟨h.1.fr hF (h1 30 (by decide) (by decide)) h2, h.2.1.fr hF h1, h.2.2.1, (hF 0 35 (h1 35 (by decide) (by decide))).trans h.2.2.2.1, h.2.2.2.2.1, fun hb => (hF 0 36 (h1 36 (by decide) (by decide))).trans (h.2.2.2.2.2 hb)⟩
theorem MP.up {iv : IV} {B : Nat → Nat} {n bad : Nat} {t : Tok} (h : MP iv B n bad t) (lb k : Nat) (v : Int32) (h0 : lb ≠ 0) (h1 : lb ≠ 1) : MP (up2 iv lb k v) B n bad t :=
  h.fr (P := fun b _ => b = lb) (Fr.up Fr.rf rfl) (fun _ _ _ h => h0 h.symm) (fun _ h => h1 h.symm)
theorem MP.up0 {iv : IV} {B : Nat → Nat} {n bad : Nat} {t : Tok} (h : MP iv B n bad t) (k : Nat) (v : Int32) (hk : k < 29 ∨ 36 < k) : MP (up2 iv 0 k v) B n bad t :=
  h.fr (P := fun b j => b = 0 ∧ j = k) (Fr.up Fr.rf ⟨rfl, rfl⟩) (fun j h1 h2 h => by omega) (fun _ h => by omega)
theorem MP.step {iv iv' : IV} {B : Nat → Nat} {n : Nat} {t : Tok} (h : MP iv B n 0 t) (hT : TR iv' (tokAt B n (te t))) (hF : Fr iv iv' pS) : MP iv' B n 0 (nx B n t) :=
  ⟨h.1.fr hF (by decide) (fun k => by simp), hT, TV_nx h.2.2.1, (hF 0 35 (by decide)).trans h.2.2.2.1, by decide, fun hb => absurd rfl hb⟩
theorem pS_pQ {iv iv' : IV} (h : Fr iv iv' pS) : Fr iv iv' pQ := h.mono (fun lb j h => by omega)
theorem MP.b {iv : IV} {B : Nat → Nat} {n bad : Nat} {t : Tok} (h : MP iv B n bad t) : n ≤ 1000 ∧ tb t ≤ te t ∧ te t ≤ n ∧ tk t ≤ 3 ∧ ts t ≤ 256 ∧ bad ≤ 4 :=
  ⟨h.1.1, (TV_b h.2.2.1).1, (TV_b h.2.2.1).2.1, (TV_b h.2.2.1).2.2.2.2.1, ts_le h.1.2.2.2 h.2.2.1, h.2.2.2.2.1⟩
theorem kwA_t {B : Nat → Nat} {bad i : Nat} {t : Tok} (hi : sW i ∈ kws) (h : kw B bad t i = true) : decide (bad = 0 ∧ tk t = 1 ∧ wd B t ∈ kws) = true := by
  simp only [kw, decide_eq_true_eq] at h ⊢
  exact ⟨h.1, h.2.1, by rw [h.2.2]; exact hi⟩
theorem kwA_f {B : Nat → Nat} {bad : Nat} {t : Tok} (h1 : kw B bad t 20 = false) (h2 : kw B bad t 19 = false) (h3 : kw B bad t 21 = false) (h4 : kw B bad t 22 = false) (h5 : kw B bad t 23 = false) (h6 : kw B bad t 24 = false) (h7 : kw B bad t 25 = false) : decide (bad = 0 ∧ tk t = 1 ∧ wd B t ∈ kws) = false := by
  simp only [kw, decide_eq_false_iff_not] at *
  rintro ⟨g1, g2, g3⟩
  simp only [kws, List.mem_cons, List.not_mem_nil, or_false] at g3
  rcases g3 with g | g | g | g | g | g | g
  · exact h1 ⟨g1, g2, g⟩
  · exact h2 ⟨g1, g2, g⟩
  · exact h3 ⟨g1, g2, g⟩
  · exact h4 ⟨g1, g2, g⟩
  · exact h5 ⟨g1, g2, g⟩
  · exact h6 ⟨g1, g2, g⟩
  · exact h7 ⟨g1, g2, g⟩
/-- a sign must stand here -/
def nd (B : Nat → Nat) (n bad : Nat) (t : Tok) (c : Nat) : Nat × Tok := if bad ≠ 0 then (bad, t) else if tk t = 2 ∧ ts t = c then (0, nx B n t) else (1, t)
/-- the FAULT behind free() -/
def fb (B : Nat → Nat) (bad : Nat) (t : Tok) : Nat := if bad = 0 then frF B t else bad
theorem fb_1 {B : Nat → Nat} {t : Tok} (h : tk t ≠ 1 ∨ wd B t ∈ kws) : frF B t = 1 := by unfold frF; rw [if_pos h]
theorem fb_2 {B : Nat → Nat} {t : Tok} (h1 : tk t = 1) (h : wd B t ∉ kws) (h2 : 8 < te t - tb t) : frF B t = 2 := by unfold frF; rw [if_neg (by simp [h1, h]), if_pos h2]
theorem fb_0 {B : Nat → Nat} {t : Tok} (h1 : tk t = 1) (h : wd B t ∉ kws) (h2 : te t - tb t ≤ 8) : frF B t = 0 := by unfold frF; rw [if_neg (by simp [h1, h]), if_neg (by omega)]
/-- a stored word of the reference -/
def SW (iv : IV) (w : Nat) (ws : Wd) : Prop := iv 11 w = nI ws.length ∧ ws.length ≤ 8 ∧ (∀ j, j < ws.length → iv 12 (8 * w + j) = nI (ws.getD j 0)) ∧ ∀ j, j < ws.length → ws.getD j 0 < 256
theorem SW.fr {iv iv' : IV} {w : Nat} {ws : Wd} {P : Nat → Nat → Prop} (h : SW iv w ws) (hF : Fr iv iv' P) (h1 : ¬ P 11 w) (h2 : ∀ j, j < 8 → ¬ P 12 (8 * w + j)) : SW iv' w ws :=
  ⟨(hF 11 w h1).trans h.1, h.2.1, fun j hj => (hF 12 _ (h2 j (by have := h.2.1; omega))).trans (h.2.2.1 j hj), h.2.2.2⟩
/-- where a word stands first -/
def ixW (vs : List Wd) (w : Wd) : Option Nat := vs.findIdx? (fun x => decide (x = w))
theorem ixW_some {vs : List Wd} {w : Wd} {v : Nat} (hv : v < vs.length) (h : vs.getD v [] = w) (hn : ∀ u, u < v → vs.getD u [] ≠ w) : ixW vs w = some v := by
  rw [ixW, List.findIdx?_eq_some_iff_getElem]
  refine ⟨hv, ?_, fun j hj => ?_⟩
  · rw [List.getD_eq_getElem?_getD, List.getElem?_eq_getElem hv] at h
    simpa using h
  · have := hn j hj
    rw [List.getD_eq_getElem?_getD, List.getElem?_eq_getElem (by omega)] at this
    simpa using this
theorem ixW_none {vs : List Wd} {w : Wd} (hn : ∀ u, u < vs.length → vs.getD u [] ≠ w) : ixW vs w = none := by
  rw [ixW, List.findIdx?_eq_none_iff]
  intro x hx
  obtain ⟨j, hj, rfl⟩ := List.getElem_of_mem hx
  have := hn j hj
  rw [List.getD_eq_getElem?_getD, List.getElem?_eq_getElem hj] at this
  simpa using this
theorem ixW_lt {vs : List Wd} {w : Wd} {v : Nat} (h : ixW vs w = some v) : v < vs.length ∧ vs.getD v [] = w := by
  rw [ixW, List.findIdx?_eq_some_iff_getElem] at h
  obtain ⟨h1, h2, -⟩ := h
  exact ⟨h1, by rw [List.getD_eq_getElem?_getD, List.getElem?_eq_getElem h1]; simpa using h2⟩
/-- the words of an INPUT or OUTPUT i of the TABLE T -/
def VS (iv : IV) (T i : Nat) (vs : List Wd) : Prop := iv 10 (6 * T + i) = nI vs.length ∧ vs.length ≤ 6 ∧ ∀ v, v < vs.length → SW iv (42 * T + 7 * i + (1 + v)) (vs.getD v [])
theorem VS.fr {iv iv' : IV} {T i : Nat} {vs : List Wd} {P : Nat → Nat → Prop} (h : VS iv T i vs) (hF : Fr iv iv' P) (h0 : ¬ P 10 (6 * T + i)) (h1 : ∀ v, v < 6 → ¬ P 11 (42 * T + 7 * i + (1 + v))) (h2 : ∀ v, v < 6 → ∀ j, j < 8 → ¬ P 12 (8 * (42 * T + 7 * i + (1 + v)) + j)) : VS iv' T i vs :=
  ⟨(hF 10 _ h0).trans h.1, h.2.1, fun v hv => (h.2.2 v hv).fr hF (h1 v (by have := h.2.1; omega)) (h2 v (by have := h.2.1; omega))⟩
abbrev pK (w : Nat) : Nat → Nat → Prop := fun lb j => (lb = 0 ∧ 29 ≤ j ∧ j ≤ 36 ∧ j ≠ 30) ∨ (lb = 11 ∧ j = w) ∨ (lb = 12 ∧ 8 * w ≤ j ∧ j < 8 * w + 8)
def prd (f : Nat → Nat) : Nat → Nat
  | 0 => 1
  | k + 1 => prd f k * f k
/-- a VALUE that must have been told: the FAULT, its number, the TOKEN behind -/
def rdV (B : Nat → Nat) (n : Nat) (vs : List Wd) (bad : Nat) (t : Tok) : Nat × Nat × Tok :=
  if bad ≠ 0 then (bad, 0, t) else if frF B t ≠ 0 then (frF B t, 0, t) else match ixW vs (wd B t) with
  | none => (3, 0, t)
  | some v => (0, v, nx B n t)
theorem all_eq : ∀ k, k ≤ 6 → (nI 1 <<< (nI k &&& 31)) - nI 1 = nI (2 ^ k - 1) := by decide +kernel
/-- the VALUES of an INPUT or OUTPUT: the FAULT, the VALUES, the TOKEN behind -/
def rdVals (B : Nat → Nat) (n ahead : Nat) : Nat → List Wd → Tok → Nat × List Wd × Tok
  | 0, acc, t => (1, acc, t)
  | f + 1, acc, t => if 2 ≤ acc.length ∧ tk t = 2 ∧ ts t = 59 then (0, acc, nx B n t) else if frF B t ≠ 0 then (frF B t, acc, t) else if acc.length = 6 ∨ 400 < ahead * (acc.length + 1) then (2, acc, t) else if wd B t ∈ acc then (4, acc, t) else rdVals B n ahead f (acc ++ [wd B t]) (nx B n t)
/-- an INPUT or OUTPUT from its keyword t on: the FAULT, NAME, VALUES, the TOKEN behind -/
def rdCol (B : Nat → Nat) (n : Nat) (nms : List Wd) (ahead : Nat) (t : Tok) : Nat × Wd × List Wd × Tok :=
  let t1 := nx B n t
  if frF B t1 ≠ 0 then (frF B t1, [], [], t1) else if wd B t1 ∈ nms then (4, [], [], t1) else
  let t2 := nx B n t1
  if ¬ (tk t2 = 2 ∧ ts t2 = 58) then (1, wd B t1, [], t2) else
  let r := rdVals B n ahead 8 [] (nx B n t2)
  (r.1, wd B t1, r.2.1, r.2.2)
abbrev pC (T i : Nat) : Nat → Nat → Prop := fun lb j => (lb = 0 ∧ 29 ≤ j ∧ j ≤ 36 ∧ j ≠ 30) ∨ (lb = 10 ∧ j = 6 * T + i) ∨ (lb = 11 ∧ 42 * T + 7 * i ≤ j ∧ j < 42 * T + 7 * i + 7) ∨ (lb = 12 ∧ 8 * (42 * T + 7 * i) ≤ j ∧ j < 8 * (42 * T + 7 * i) + 56)
theorem mem_getD {α : Type} {l : List α} {x d : α} : x ∈ l ↔ ∃ u, u < l.length ∧ l.getD u d = x := by
  constructor
  · intro h
    obtain ⟨j, hj, rfl⟩ := List.getElem_of_mem h
    exact ⟨j, hj, by rw [List.getD_eq_getElem?_getD, List.getElem?_eq_getElem hj]; rfl⟩
  · rintro ⟨u, hu, rfl⟩
    rw [List.getD_eq_getElem?_getD, List.getElem?_eq_getElem hu]
    exact List.getElem_mem hu
theorem ixW_eq_none {vs : List Wd} {w : Wd} : ixW vs w = none ↔ w ∉ vs := by
  rw [ixW, List.findIdx?_eq_none_iff]
  constructor
  · intro h hm; have := h w hm; simp at this
  · intro h x hx; simp; rintro rfl; exact h hx
theorem getD_app_lt {α : Type} {l : List α} {x d : α} {u : Nat} (h : u < l.length) : (l ++ [x]).getD u d = l.getD u d := by
  simp [List.getD_eq_getElem?_getD, List.getElem?_append_left h]
theorem getD_app_eq {α : Type} {l : List α} {x d : α} : (l ++ [x]).getD l.length d = x := by
  simp [List.getD_eq_getElem?_getD]
theorem oI_m1 {o : Option Nat} (h : ∀ k, o = some k → k < 2147483648) : oI o = -1 ↔ o = none := by
  cases o with
  | none => simp [oI]
  | some k => simp only [oI]; exact ⟨fun h2 => absurd h2 (nI_ne_m1 (h k rfl)), fun h2 => by cases h2⟩
theorem mem_take_s {α : Type} {l : List α} {x d : α} {o : Nat} (h : o < l.length) : x ∈ l.take (o + 1) ↔ x ∈ l.take o ∨ l.getD o d = x := by
  rw [List.take_add_one, List.mem_append, List.getD_eq_getElem?_getD, List.getElem?_eq_getElem h]
  simp [eq_comm]
def bo (x : Wd) (l : List Wd) (o : Nat) : Nat := if x ∈ l.take o then 4 else 0
theorem bo_le {x : Wd} {l : List Wd} {o : Nat} : bo x l o ≤ 4 := by unfold bo; split <;> omega
theorem pK_pC {T i w : Nat} (h1 : 42 * T + 7 * i ≤ w) (h2 : w < 42 * T + 7 * i + 7) : ∀ lb j, pK w lb j → pC T i lb j := by
  intro lb j h
  simp only [pK, pC] at *
  omega
theorem rdCol_1 {B : Nat → Nat} {n : Nat} {nms : List Wd} {ahead : Nat} {t : Tok} (h : frF B (nx B n t) ≠ 0) : rdCol B n nms ahead t = (frF B (nx B n t), [], [], nx B n t) := by
  simp only [rdCol]; rw [if_pos h]
theorem rdCol_2 {B : Nat → Nat} {n : Nat} {nms : List Wd} {ahead : Nat} {t : Tok} (h : frF B (nx B n t) = 0) (h2 : wd B (nx B n t) ∈ nms) : rdCol B n nms ahead t = (4, [], [], nx B n t) := by
  simp only [rdCol]; rw [if_neg (by simp [h]), if_pos h2]
theorem rdCol_3 {B : Nat → Nat} {n : Nat} {nms : List Wd} {ahead : Nat} {t : Tok} (h : frF B (nx B n t) = 0) (h2 : wd B (nx B n t) ∉ nms) (h3 : ¬ (tk (nx B n (nx B n t)) = 2 ∧ ts (nx B n (nx B n t)) = 58)) : rdCol B n nms ahead t = (1, wd B (nx B n t), [], nx B n (nx B n t)) := by
  simp only [rdCol]; rw [if_neg (by simp [h]), if_neg h2, if_pos h3]
theorem rdCol_4 {B : Nat → Nat} {n : Nat} {nms : List Wd} {ahead : Nat} {t : Tok} (h : frF B (nx B n t) = 0) (h2 : wd B (nx B n t) ∉ nms) (h3 : tk (nx B n (nx B n t)) = 2 ∧ ts (nx B n (nx B n t)) = 58) : rdCol B n nms ahead t = ((rdVals B n ahead 8 [] (nx B n (nx B n (nx B n t)))).1, wd B (nx B n t), (rdVals B n ahead 8 [] (nx B n (nx B n (nx B n t)))).2.1, (rdVals B n ahead 8 [] (nx B n (nx B n (nx B n t)))).2.2) := by
  simp only [rdCol]; rw [if_neg (by simp [h]), if_neg h2, if_neg (by simp [h3])]
theorem rdVals_go {B : Nat → Nat} {n ahead : Nat} {acc : List Wd} {t : Tok} (h : acc.length ≤ 6) : rdVals B n ahead (8 - acc.length) acc t = (if 2 ≤ acc.length ∧ tk t = 2 ∧ ts t = 59 then (0, acc, nx B n t) else if frF B t ≠ 0 then (frF B t, acc, t) else if acc.length = 6 ∨ 400 < ahead * (acc.length + 1) then (2, acc, t) else if wd B t ∈ acc then (4, acc, t) else rdVals B n ahead (8 - (acc ++ [wd B t]).length) (acc ++ [wd B t]) (nx B n t)) := by
  obtain ⟨f, hf⟩ : ∃ f, 8 - acc.length = f + 1 := ⟨8 - acc.length - 1, by omega⟩
  rw [hf, show 8 - (acc ++ [wd B t]).length = f by simp; omega]
  rfl
theorem bo_ne {x : Wd} {l : List Wd} {o : Nat} (h : o < l.length) (hn : ¬ x = l.getD o []) : bo x l (o + 1) = bo x l o := by
  have e : x ∈ l.take (o + 1) ↔ x ∈ l.take o := by
    rw [mem_take_s (d := []) h]
    exact ⟨fun h => h.elim id (fun h => absurd h.symm hn), Or.inl⟩
  simp only [bo, e]
theorem bit_or : ∀ b, b < 64 → ∀ v, v < 6 → nI b ||| (nI 1 <<< (nI v &&& 31)) = nI (b ||| 2 ^ v) ∧ (b ||| 2 ^ v) < 64 ∧ (b.testBit v = false → b < (b ||| 2 ^ v)) := by decide +kernel
theorem bit_t : ∀ b, b < 64 → ∀ v, v < 6 → (((nI b >>> (nI v &&& 31)) &&& nI 1 = nI 1) ↔ b.testBit v = true) := by decide +kernel
theorem bit_no : ∀ k, k ≤ 6 → ∀ v, v < k → nI (2 ^ k - 1) &&& ((nI 1 <<< (nI v &&& 31)) ^^^ (-1)) = nI (2 ^ k - 1 - 2 ^ v) := by decide +kernel
/-- the VALUES of a CELL: the FAULT, the bits, the TOKEN behind -/
def rdBits (B : Nat → Nat) (n : Nat) (vs : List Wd) : Nat → Nat → Tok → Nat × Nat × Tok
  | 0, _, t => (1, 0, t)
  | f + 1, b, t => if frF B t ≠ 0 then (frF B t, 0, t) else match ixW vs (wd B t) with
    | none => (3, 0, t)
    | some v => if b.testBit v = true then (4, 0, t) else if tk (nx B n t) = 2 ∧ ts (nx B n t) = 47 then rdBits B n vs f (b ||| 2 ^ v) (nx B n (nx B n t)) else (0, b ||| 2 ^ v, nx B n t)
def rdCell (B : Nat → Nat) (n : Nat) (vs : List Wd) (bad : Nat) (t : Tok) : Nat × Nat × Tok :=
  if bad ≠ 0 then (bad, 0, t) else if tk t = 2 ∧ ts t = 42 then (0, 2 ^ vs.length - 1, nx B n t) else if tk t = 2 ∧ ts t = 33 then
    (let r := rdV B n vs 0 (nx B n t); if r.1 ≠ 0 then (r.1, 0, r.2.2) else (0, 2 ^ vs.length - 1 - 2 ^ r.2.1, r.2.2))
  else rdBits B n vs 64 0 t
theorem rdV_lt {B : Nat → Nat} {n : Nat} {vs : List Wd} {bad : Nat} {t : Tok} (h : (rdV B n vs bad t).1 = 0) : (rdV B n vs bad t).2.1 < vs.length := by
  unfold rdV at h ⊢
  split at h
  · rename_i h1; exact absurd h h1
  · rename_i h1
    rw [if_neg h1]
    split at h
    · rename_i h2; exact absurd h h2
    · rename_i h2
      rw [if_neg h2]
      cases hx : ixW vs (wd B t) with
      | none => rw [hx] at h; simp at h
      | some v => exact (ixW_lt hx).1
