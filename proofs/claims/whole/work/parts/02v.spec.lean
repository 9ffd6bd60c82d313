/-! ===== TABLES as read ===== -/
abbrev Col : Type := Wd × List Wd
abbrev Row : Type := List Nat × Nat
abbrev Tab : Type := List Col × List Wd × List Row
abbrev dC0 : Col := ([], [])
abbrev dR0 : Row := ([], 0)
def szs (ins : List Col) : List Nat := ins.map (fun c => c.2.length)
def csz (l : List Nat) : Nat := prd (fun i => l.getD i 0) l.length
def kwP (B : Nat → Nat) (t : Tok) (i : Nat) : Bool := decide (tk t = 1 ∧ wd B t = sW i)
theorem kw0 {B : Nat → Nat} {t : Tok} {i : Nat} : kw B 0 t i = kwP B t i := by simp [kw, kwP]
def rdInputs (B : Nat → Nat) (n : Nat) : Nat → List Col → Tok → Nat × List Col × Tok
  | 0, ins, t => (1, ins, t)
  | f + 1, ins, t => if ins.length ≠ 0 ∧ kwP B t 19 = true then (0, ins, t) else if kwP B t 20 = false then (1, ins, t) else if ins.length = 5 then (2, ins, t) else
    let r := rdCol B n (ins.map (fun c => c.1)) (csz (szs ins)) t
    if r.1 ≠ 0 then (r.1, ins, r.2.2.2) else rdInputs B n f (ins ++ [(r.2.1, r.2.2.1)]) r.2.2.2
/-- the first i CELLS of a ROW -/
def rcI (B : Nat → Nat) (n : Nat) (cols : Nat → List Wd) : Nat → Nat → Tok → Nat × List Nat × Tok
  | 0, bad, t => (bad, [], t)
  | i + 1, bad, t => ((rdCell B n (cols i) (rcI B n cols i bad t).1 (rcI B n cols i bad t).2.2).1, (rcI B n cols i bad t).2.1 ++ [(rdCell B n (cols i) (rcI B n cols i bad t).1 (rcI B n cols i bad t).2.2).2.1], (rdCell B n (cols i) (rcI B n cols i bad t).1 (rcI B n cols i bad t).2.2).2.2)
theorem rcI_len {B : Nat → Nat} {n : Nat} {cols : Nat → List Wd} {bad : Nat} {t : Tok} : ∀ i, (rcI B n cols i bad t).2.1.length = i
  | 0 => rfl
  | i + 1 => by simp [rcI, rcI_len i]
theorem rdCell_bad {B : Nat → Nat} {n : Nat} {vs : List Wd} {bad : Nat} {t : Tok} (h : (rdCell B n vs bad t).1 = 0) : bad = 0 := by
  unfold rdCell at h
  split at h
  · rename_i h1; exact absurd h h1
  · rename_i h1; exact Classical.not_not.mp h1
theorem rcI_bad {B : Nat → Nat} {n : Nat} {cols : Nat → List Wd} {bad : Nat} {t : Tok} {i : Nat} (h : (rcI B n cols (i + 1) bad t).1 = 0) : (rcI B n cols i bad t).1 = 0 := rdCell_bad h
def rdRow (B : Nat → Nat) (n : Nat) (cols : Nat → List Wd) (m : Nat) (outs : List Wd) (t : Tok) : Nat × Row × Tok :=
  let q := rcI B n cols m 0 t
  let a := nd B n q.1 q.2.2 256
  let v := rdV B n outs a.1 a.2
  let e := nd B n v.1 v.2.2 59
  (e.1, (q.2.1, v.2.1), e.2)
def colsOf (ins : List Col) : Nat → List Wd := fun i => (ins.getD i dC0).2
def rdRows (B : Nat → Nat) (n : Nat) (ins : List Col) (outs : List Wd) : Nat → List Row → Tok → Nat × List Row × Tok
  | 0, rows, t => (1, rows, t)
  | f + 1, rows, t => if tk t = 0 then (0, rows, t) else if kwP B t 21 = false then (1, rows, t) else if rows.length = 40 then (2, rows, t) else
    let r := rdRow B n (colsOf ins) ins.length outs (nx B n t)
    if r.1 ≠ 0 then (r.1, rows, r.2.2) else rdRows B n ins outs f (rows ++ [r.2.1]) r.2.2
def rdTable (B : Nat → Nat) (n : Nat) : Nat × Tab × Tok :=
  let a := rdInputs B n 6 [] (tokAt B n 0)
  if a.1 ≠ 0 then (a.1, (a.2.1, [], []), a.2.2) else
  let o := rdCol B n (a.2.1.map (fun c => c.1)) 0 a.2.2
  if o.1 ≠ 0 then (o.1, (a.2.1, [], []), o.2.2.2) else
  let r := rdRows B n a.2.1 o.2.2.1 41 [] o.2.2.2
  (r.1, (a.2.1, o.2.2.1, r.2.1), r.2.2)
theorem rdVals_ok {B : Nat → Nat} {n ahead : Nat} : ∀ (f : Nat) (acc : List Wd) (t : Tok), (rdVals B n ahead f acc t).1 = 0 → acc.length ≤ 6 → (acc ≠ [] → ahead * acc.length ≤ 400) → 2 ≤ (rdVals B n ahead f acc t).2.1.length ∧ (rdVals B n ahead f acc t).2.1.length ≤ 6 ∧ ahead * (rdVals B n ahead f acc t).2.1.length ≤ 400
  | 0, acc, t, h, _, _ => by simp [rdVals] at h
  | f + 1, acc, t, h, h6, ha => by
    unfold rdVals at h ⊢
    split at h
    · rename_i h1
      rw [if_pos h1]
      refine ⟨h1.1, h6, ha (fun e => ?_)⟩
      rw [e] at h1; simp at h1
    · rename_i h1
      rw [if_neg h1]
      split at h
      · rename_i h2; exact absurd h h2
      · rename_i h2
        rw [if_neg h2]
        split at h
        · simp at h
        · rename_i h3
          rw [if_neg h3]
          split at h
          · simp at h
          · rename_i h4
            rw [if_neg h4]
            exact rdVals_ok f _ _ h (by simp; omega) (fun _ => by simp; omega)
theorem rdCol_ok {B : Nat → Nat} {n ahead : Nat} {nms : List Wd} {t : Tok} (h : (rdCol B n nms ahead t).1 = 0) : 2 ≤ (rdCol B n nms ahead t).2.2.1.length ∧ (rdCol B n nms ahead t).2.2.1.length ≤ 6 ∧ ahead * (rdCol B n nms ahead t).2.2.1.length ≤ 400 := by
  simp only [rdCol] at h ⊢
  split at h
  · rename_i h1; exact absurd h h1
  · rename_i h1
    rw [if_neg h1]
    split at h
    · simp at h
    · rename_i h2
      rw [if_neg h2]
      split at h
      · simp at h
      · rename_i h3
        rw [if_neg h3]
        exact rdVals_ok 8 [] _ h (by simp) (fun h => absurd rfl h)
theorem prd_congr {f g : Nat → Nat} : ∀ {k : Nat}, (∀ i, i < k → f i = g i) → prd f k = prd g k
  | 0, _ => rfl
  | k + 1, h => by rw [prd, prd, prd_congr (fun i hi => h i (by omega)), h k (by omega)]
theorem csz_app {l : List Nat} {x : Nat} : csz (l ++ [x]) = csz l * x := by
  unfold csz
  rw [List.length_append, List.length_singleton, prd, getD_app_eq, prd_congr (fun i hi => getD_app_lt hi)]
theorem szs_app {l : List Col} {x : Col} : szs (l ++ [x]) = szs l ++ [x.2.length] := by simp [szs]
theorem szs_get {l : List Col} {i : Nat} : (szs l).getD i 0 = (l.getD i dC0).2.length := by
  unfold szs
  by_cases h : i < l.length
  · simp [List.getD_eq_getElem?_getD, h]
  · simp [List.getD_eq_getElem?_getD, List.getElem?_eq_none (Nat.not_lt.mp h)]
theorem szs_len {l : List Col} : (szs l).length = l.length := by simp [szs]
/-- the reference holds the INPUTS of the TABLE T -/
def INS (iv : IV) (T : Nat) (ins : List Col) : Prop := iv 8 T = nI ins.length ∧ ins.length ≤ 5 ∧ (∀ o, o < ins.length → SW iv (42 * T + 7 * o + 0) (ins.getD o dC0).1 ∧ VS iv T o (ins.getD o dC0).2) ∧ csz (szs ins) ≤ 400
theorem INS.fr {iv iv' : IV} {T : Nat} {ins : List Col} {P : Nat → Nat → Prop} (h : INS iv T ins) (hF : Fr iv iv' P) (h8 : ¬ P 8 T) (h10 : ∀ j, 6 * T ≤ j → j < 6 * T + ins.length → ¬ P 10 j) (h11 : ∀ j, 42 * T ≤ j → j < 42 * T + 7 * ins.length → ¬ P 11 j) (h12 : ∀ j, 336 * T ≤ j → j < 336 * T + 56 * ins.length → ¬ P 12 j) : INS iv' T ins :=
  ⟨(hF 8 T h8).trans h.1, h.2.1, fun o ho => ⟨((h.2.2.1 o ho).1).fr hF (h11 _ (by omega) (by omega)) (fun j hj => h12 _ (by omega) (by omega)), ((h.2.2.1 o ho).2).fr hF (h10 _ (by omega) (by omega)) (fun v hv => h11 _ (by omega) (by omega)) (fun v hv j hj => h12 _ (by omega) (by omega))⟩, h.2.2.2⟩
def ROWS (iv : IV) (T m : Nat) (rows : List Row) : Prop := iv 9 T = nI rows.length ∧ rows.length ≤ 40 ∧ ∀ r, r < rows.length → (∀ i, i < m → iv 13 (5 * (40 * T + r) + i) = nI ((rows.getD r dR0).1.getD i 0)) ∧ iv 14 (40 * T + r) = nI (rows.getD r dR0).2
theorem ROWS.fr {iv iv' : IV} {T m : Nat} {rows : List Row} {P : Nat → Nat → Prop} (h : ROWS iv T m rows) (hm : m ≤ 5) (hF : Fr iv iv' P) (h9 : ¬ P 9 T) (h13 : ∀ j, 200 * T ≤ j → j < 200 * T + 5 * rows.length → ¬ P 13 j) (h14 : ∀ j, 40 * T ≤ j → j < 40 * T + rows.length → ¬ P 14 j) : ROWS iv' T m rows :=
  ⟨(hF 9 T h9).trans h.1, h.2.1, fun r hr => ⟨fun i hi => (hF 13 _ (h13 _ (by omega) (by omega))).trans ((h.2.2 r hr).1 i hi), (hF 14 _ (h14 _ (by omega) (by omega))).trans (h.2.2 r hr).2⟩⟩
def TABL (iv : IV) (T : Nat) (tab : Tab) : Prop := INS iv T tab.1 ∧ tab.1.length ≠ 0 ∧ VS iv T 5 tab.2.1 ∧ ROWS iv T tab.1.length tab.2.2
abbrev pT (T : Nat) : Nat → Nat → Prop := fun lb j => (lb = 0 ∧ 29 ≤ j ∧ j ≤ 36 ∧ j ≠ 30) ∨ (lb = 8 ∧ j = T) ∨ (lb = 9 ∧ j = T) ∨ (lb = 10 ∧ 6 * T ≤ j ∧ j < 6 * T + 6) ∨ (lb = 11 ∧ 42 * T ≤ j ∧ j < 42 * T + 42) ∨ (lb = 12 ∧ 336 * T ≤ j ∧ j < 336 * T + 336) ∨ (lb = 13 ∧ 200 * T ≤ j ∧ j < 200 * T + 200) ∨ (lb = 14 ∧ 40 * T ≤ j ∧ j < 40 * T + 40)
theorem pC_pT {T i : Nat} (hi : i ≤ 5) : ∀ lb j, pC T i lb j → pT T lb j := by
  intro lb j h
  simp only [pC, pT] at *
  omega
theorem INS_add {iv iv' : IV} {T : Nat} {ins : List Col} {c : Col} (h : INS iv T ins) (h5 : ins.length < 5) (hF : Fr iv iv' (pC T ins.length)) (hS : SW iv' (42 * T + 7 * ins.length + 0) c.1) (hV : VS iv' T ins.length c.2) (hc : csz (szs ins) * c.2.length ≤ 400) : INS (up2 iv' 8 T (nI (ins.length + 1))) T (ins ++ [c]) := by
  have h2 := h.fr hF (by simp) (fun j h1 h2 => by simp only [pC]; omega) (fun j h1 h2 => by simp only [pC]; omega) (fun j h1 h2 => by simp only [pC]; omega)
  have hU : Fr iv' (up2 iv' 8 T (nI (ins.length + 1))) (fun lb _ => lb = 8) := Fr.up Fr.rf rfl
  refine ⟨by rw [List.length_append]; exact up2_s, by simp; omega, fun o ho => ?_, by rw [szs_app, csz_app]; exact hc⟩
  by_cases ho2 : o < ins.length
  · rw [getD_app_lt ho2]
    exact ⟨(h2.2.2.1 o ho2).1.fr hU (by simp) (fun _ _ => by simp), (h2.2.2.1 o ho2).2.fr hU (by simp) (fun _ _ => by simp) (fun _ _ _ _ => by simp)⟩
  · have ho3 : o = ins.length := by simp at ho; omega
    subst ho3
    rw [getD_app_eq]
    exact ⟨hS.fr hU (by simp) (fun _ _ => by simp), hV.fr hU (by simp) (fun _ _ => by simp) (fun _ _ _ _ => by simp)⟩
theorem rdInputs_go {B : Nat → Nat} {n : Nat} {ins : List Col} {t : Tok} (h : ins.length ≤ 5) : rdInputs B n (6 - ins.length) ins t = (if ins.length ≠ 0 ∧ kwP B t 19 = true then (0, ins, t) else if kwP B t 20 = false then (1, ins, t) else if ins.length = 5 then (2, ins, t) else if (rdCol B n (ins.map (fun c => c.1)) (csz (szs ins)) t).1 ≠ 0 then ((rdCol B n (ins.map (fun c => c.1)) (csz (szs ins)) t).1, ins, (rdCol B n (ins.map (fun c => c.1)) (csz (szs ins)) t).2.2.2) else rdInputs B n (6 - (ins ++ [((rdCol B n (ins.map (fun c => c.1)) (csz (szs ins)) t).2.1, (rdCol B n (ins.map (fun c => c.1)) (csz (szs ins)) t).2.2.1)]).length) (ins ++ [((rdCol B n (ins.map (fun c => c.1)) (csz (szs ins)) t).2.1, (rdCol B n (ins.map (fun c => c.1)) (csz (szs ins)) t).2.2.1)]) (rdCol B n (ins.map (fun c => c.1)) (csz (szs ins)) t).2.2.2) := by
  obtain ⟨f, hf⟩ : ∃ f, 6 - ins.length = f + 1 := ⟨6 - ins.length - 1, by omega⟩
  rw [hf, List.length_append, List.length_singleton, show 6 - (ins.length + 1) = f by omega]
  rfl
theorem rdRows_go {B : Nat → Nat} {n : Nat} {ins : List Col} {outs : List Wd} {rows : List Row} {t : Tok} (h : rows.length ≤ 40) : rdRows B n ins outs (41 - rows.length) rows t = (if tk t = 0 then (0, rows, t) else if kwP B t 21 = false then (1, rows, t) else if rows.length = 40 then (2, rows, t) else if (rdRow B n (colsOf ins) ins.length outs (nx B n t)).1 ≠ 0 then ((rdRow B n (colsOf ins) ins.length outs (nx B n t)).1, rows, (rdRow B n (colsOf ins) ins.length outs (nx B n t)).2.2) else rdRows B n ins outs (41 - (rows ++ [(rdRow B n (colsOf ins) ins.length outs (nx B n t)).2.1]).length) (rows ++ [(rdRow B n (colsOf ins) ins.length outs (nx B n t)).2.1]) (rdRow B n (colsOf ins) ins.length outs (nx B n t)).2.2) := by
  obtain ⟨f, hf⟩ : ∃ f, 41 - rows.length = f + 1 := ⟨41 - rows.length - 1, by omega⟩
  rw [hf, List.length_append, List.length_singleton, show 41 - (rows.length + 1) = f by omega]
  rfl
