/-! ===== what was read is well made ===== -/
def wOK (w : Wd) : Prop := w.length ≤ 8 ∧ w.length ≠ 0 ∧ ∀ j, j < w.length → isWS (w.getD j 0) = true
theorem wOK_wd {B : Nat → Nat} {n : Nat} {t : Tok} (hv : TV B n t) (h : frF B t = 0) : wOK (wd B t) := by
  obtain ⟨h1, -, h8⟩ := frF_0 h
  have hb := TV_b hv
  refine ⟨by rw [wd_len]; exact h8, by rw [wd_len]; have := hb.2.2.1 (by omega); omega, fun j hj => ?_⟩
  rw [wd_len] at hj
  rw [wd_get hj]
  exact hb.2.2.2.2.2 h1 _ (by omega) (by omega)
theorem rdVals_w {B : Nat → Nat} {n ahead : Nat} : ∀ (f : Nat) (acc : List Wd) (t : Tok), (rdVals B n ahead f acc t).1 = 0 → TV B n t → (∀ w ∈ acc, wOK w) → (∀ w ∈ (rdVals B n ahead f acc t).2.1, wOK w) ∧ TV B n (rdVals B n ahead f acc t).2.2
  | 0, acc, t, h, _, _ => by simp [rdVals] at h
  | f + 1, acc, t, h, hv, ha => by
    unfold rdVals at h ⊢
    split at h
    · rename_i h1
      rw [if_pos h1]
      exact ⟨ha, TV_nx hv⟩
    · rename_i h1
      rw [if_neg h1]
      split at h
      · rename_i h2; exact absurd h h2
      · rename_i h2
        rw [if_neg h2]
        split at h
        · simp at h
        · rename_i h3
          rw [if_neg h3]
          split at h
          · simp at h
          · rename_i h4
            rw [if_neg h4]
            refine rdVals_w f _ _ h (TV_nx hv) (fun w hw => ?_)
            rcases List.mem_append.mp hw with hw | hw
            · exact ha w hw
            · rw [List.mem_singleton] at hw
              subst hw
              exact wOK_wd hv (Classical.not_not.mp h2)
theorem rdCol_w {B : Nat → Nat} {n ahead : Nat} {nms : List Wd} {t : Tok} (h : (rdCol B n nms ahead t).1 = 0) (hv : TV B n t) : wOK (rdCol B n nms ahead t).2.1 ∧ (rdCol B n nms ahead t).2.1 ∉ nms ∧ (∀ w ∈ (rdCol B n nms ahead t).2.2.1, wOK w) ∧ TV B n (rdCol B n nms ahead t).2.2.2 := by
  simp only [rdCol] at h ⊢
  split at h
  · rename_i h1; exact absurd h h1
  · rename_i h1
    rw [if_neg h1]
    split at h
    · simp at h
    · rename_i h2
      rw [if_neg h2]
      split at h
      · simp at h
      · rename_i h3
        rw [if_neg h3]
        have := rdVals_w 8 [] _ h (TV_nx (TV_nx (TV_nx hv))) (fun w hw => by cases hw)
        exact ⟨wOK_wd (TV_nx hv) (Classical.not_not.mp h1), h2, this.1, this.2⟩
def insOK (ins : List Col) : Prop := ins.length ≤ 5 ∧ (∀ i, i < ins.length → 2 ≤ (ins.getD i dC0).2.length ∧ (ins.getD i dC0).2.length ≤ 6) ∧ csz (szs ins) ≤ 400 ∧ (ins.map (fun c => c.1)).Nodup ∧ ∀ i, i < ins.length → wOK (ins.getD i dC0).1 ∧ ∀ w ∈ (ins.getD i dC0).2, wOK w
theorem insOK_add {ins : List Col} {c : Col} (h : insOK ins) (h5 : ins.length < 5) (h2 : 2 ≤ c.2.length) (h6 : c.2.length ≤ 6) (hc : csz (szs ins) * c.2.length ≤ 400) (hn : c.1 ∉ ins.map (fun c => c.1)) (hw : wOK c.1) (hw2 : ∀ w ∈ c.2, wOK w) : insOK (ins ++ [c]) := by
  have key : ∀ i, i < (ins ++ [c]).length → (i < ins.length ∧ (ins ++ [c]).getD i dC0 = ins.getD i dC0) ∨ (ins ++ [c]).getD i dC0 = c := fun i hi => by
    by_cases hil : i < ins.length
    · exact Or.inl ⟨hil, getD_app_lt hil⟩
    · have : i = ins.length := by simp at hi; omega
      subst this
      exact Or.inr getD_app_eq
  refine ⟨by simp; omega, fun i hi => ?_, by rw [szs_app, csz_app]; exact hc, ?_, fun i hi => ?_⟩
  · rcases key i hi with ⟨h1, h3⟩ | h3 <;> rw [h3]
    · exact h.2.1 i h1
    · exact ⟨h2, h6⟩
  · rw [List.map_append, List.nodup_append]
    refine ⟨h.2.2.2.1, by simp, fun a ha b hb => ?_⟩
    simp only [List.map_cons, List.map_nil, List.mem_singleton] at hb
    subst hb
    rintro rfl
    exact hn ha
  · rcases key i hi with ⟨h1, h3⟩ | h3 <;> rw [h3]
    · exact h.2.2.2.2 i h1
    · exact ⟨hw, hw2⟩
theorem rdInputs_ok {B : Nat → Nat} {n : Nat} : ∀ (f : Nat) (ins : List Col) (t : Tok), (rdInputs B n f ins t).1 = 0 → TV B n t → insOK ins → insOK (rdInputs B n f ins t).2.1 ∧ (rdInputs B n f ins t).2.1.length ≠ 0 ∧ TV B n (rdInputs B n f ins t).2.2 ∧ kwP B (rdInputs B n f ins t).2.2 19 = true
  | 0, ins, t, h, _, _ => by simp [rdInputs] at h
  | f + 1, ins, t, h, hv, hi => by
    simp only [rdInputs] at h ⊢
    split at h
    · rename_i h1
      rw [if_pos h1]
      exact ⟨hi, h1.1, hv, h1.2⟩
    · rename_i h1
      rw [if_neg h1]
      split at h
      · simp at h
      · rename_i h2
        rw [if_neg h2]
        split at h
        · simp at h
        · rename_i h3
          rw [if_neg h3]
          split at h
          · rename_i h4; exact absurd h h4
          · rename_i h4
            rw [if_neg h4]
            have h4 := Classical.not_not.mp h4
            have h5 := rdCol_ok h4
            have h6 := rdCol_w h4 hv
            have := hi.1
            exact rdInputs_ok f _ _ h h6.2.2.2 (insOK_add hi (by omega) h5.1 h5.2.1 h5.2.2 h6.2.1 h6.1 h6.2.2.1)
theorem rdV_tv {B : Nat → Nat} {n : Nat} {vs : List Wd} {bad : Nat} {t : Tok} (hv : TV B n t) : TV B n (rdV B n vs bad t).2.2 := by
  unfold rdV
  split
  · exact hv
  · split
    · exact hv
    · split
      · exact hv
      · exact TV_nx hv
theorem rdBits_ok {B : Nat → Nat} {n : Nat} {vs : List Wd} (h6 : vs.length ≤ 6) : ∀ (f b : Nat) (t : Tok), TV B n t → b < 64 → TV B n (rdBits B n vs f b t).2.2 ∧ ((rdBits B n vs f b t).1 = 0 → (rdBits B n vs f b t).2.1 < 64 ∧ te t ≤ tb (rdBits B n vs f b t).2.2 ∧ tk t ≠ 0)
  | 0, b, t, hv, _ => by simp [rdBits, hv]
  | f + 1, b, t, hv, hb => by
    unfold rdBits
    split
    · rename_i h; exact ⟨hv, fun h2 => absurd h2 h⟩
    · rename_i h
      have ht := (frF_0 (Classical.not_not.mp h)).1
      cases hx : ixW vs (wd B t) with
      | none => exact ⟨hv, fun h => by simp at h⟩
      | some v =>
        have hl := (ixW_lt hx).1
        have hbo := bit_or b hb v (by omega)
        simp only
        split
        · exact ⟨hv, fun h => by simp at h⟩
        · split
          · have ih := rdBits_ok h6 f (b ||| 2 ^ v) (nx B n (nx B n t)) (TV_nx (TV_nx hv)) hbo.2.1
            refine ⟨ih.1, fun h => ?_⟩
            have i2 := ih.2 h
            have e1 := nx_ge (B := B) (n := n) (t := t)
            have e2 := nx_ge (B := B) (n := n) (t := nx B n t)
            have e3 := (TV_b (TV_nx hv)).1
            have e4 := (TV_b (TV_nx (TV_nx hv))).1
            exact ⟨i2.1, by omega, by omega⟩
          · exact ⟨TV_nx hv, fun _ => ⟨hbo.2.1, nx_ge, by simp only [ht]; decide⟩⟩
theorem rdCell_ok {B : Nat → Nat} {n : Nat} {vs : List Wd} (h6 : vs.length ≤ 6) {bad : Nat} {t : Tok} (hv : TV B n t) : TV B n (rdCell B n vs bad t).2.2 ∧ ((rdCell B n vs bad t).1 = 0 → (rdCell B n vs bad t).2.1 < 64 ∧ te t ≤ tb (rdCell B n vs bad t).2.2 ∧ tk t ≠ 0) := by
  have hp : 2 ^ vs.length ≤ 64 := Nat.le_trans (Nat.pow_le_pow_right (by decide) h6) (by decide)
  unfold rdCell
  split
  · rename_i h; exact ⟨hv, fun h2 => absurd h2 h⟩
  · split
    · rename_i h1
      exact ⟨TV_nx hv, fun _ => ⟨by show 2 ^ vs.length - 1 < 64; omega, nx_ge, by rw [h1.1]; decide⟩⟩
    · split
      · rename_i h1
        have ht := rdV_tv (vs := vs) (bad := 0) (TV_nx hv)
        simp only
        split
        · rename_i h2; exact ⟨ht, fun h3 => absurd h3 h2⟩
        · rename_i h2
          refine ⟨ht, fun _ => ⟨(show ∀ a b : Nat, a ≤ 64 → a - 1 - b < 64 by omega) _ _ hp, ?_, by rw [h1.1]; decide⟩⟩
          have h2 := Classical.not_not.mp h2
          show te t ≤ tb (rdV B n vs 0 (nx B n t)).2.2
          have e1 := nx_ge (B := B) (n := n) (t := t)
          have e3 := (TV_b (TV_nx hv)).1
          unfold rdV at h2 ⊢
          rw [if_neg (by simp)] at h2 ⊢
          split at h2
          · rename_i h3; exact absurd h2 h3
          · rename_i h3
            rw [if_neg h3]
            cases hx : ixW vs (wd B (nx B n t)) with
            | none => rw [hx] at h2; simp at h2
            | some v =>
              simp only
              have e2 := nx_ge (B := B) (n := n) (t := nx B n t)
              omega
      · exact rdBits_ok h6 64 0 t hv (by decide)
theorem rcI_ok {B : Nat → Nat} {n : Nat} {cols : Nat → List Wd} {bad : Nat} {t : Tok} (hv : TV B n t) : ∀ (m : Nat), (∀ i, i < m → (cols i).length ≤ 6) → TV B n (rcI B n cols m bad t).2.2 ∧ ((rcI B n cols m bad t).1 = 0 → ∀ i, i < m → (rcI B n cols m bad t).2.1.getD i 0 < 64)
  | 0, _ => ⟨hv, fun _ i hi => absurd hi (Nat.not_lt_zero i)⟩
  | m + 1, hc => by
    have ih := rcI_ok (cols := cols) (bad := bad) hv m (fun i hi => hc i (by omega))
    have hk := rdCell_ok (bad := (rcI B n cols m bad t).1) (hc m (by omega)) ih.1
    refine ⟨hk.1, fun h i hi => ?_⟩
    have h1 := rcI_bad h
    simp only [rcI] at h ⊢
    have hl : (rcI B n cols m bad t).2.1.length = m := rcI_len m
    by_cases him : i < m
    · rw [getD_app_lt (by omega)]
      exact ih.2 h1 i him
    · have : i = (rcI B n cols m bad t).2.1.length := by omega
      rw [this, getD_app_eq]
      exact (hk.2 h).1
theorem nd_tv {B : Nat → Nat} {n bad c : Nat} {t : Tok} (hv : TV B n t) : TV B n (nd B n bad t c).2 := by
  unfold nd
  split
  · exact hv
  · split
    · exact TV_nx hv
    · exact hv
theorem nd_pos {B : Nat → Nat} {n bad c : Nat} {t : Tok} (h : (nd B n bad t c).1 = 0) : bad = 0 ∧ tk t = 2 ∧ ts t = c ∧ (nd B n bad t c).2 = nx B n t := by
  unfold nd at h ⊢
  split at h
  · rename_i h1; exact absurd h h1
  · rename_i h1
    rw [if_neg h1]
    split at h
    · rename_i h2
      rw [if_pos h2]
      exact ⟨Classical.not_not.mp h1, h2.1, h2.2, rfl⟩
    · simp at h
theorem rdV_z {B : Nat → Nat} {n : Nat} {vs : List Wd} {bad : Nat} {t : Tok} (h : (rdV B n vs bad t).1 = 0) : bad = 0 ∧ frF B t = 0 ∧ (rdV B n vs bad t).2.2 = nx B n t ∧ (rdV B n vs bad t).2.1 < vs.length := by
  have hl := rdV_lt h
  unfold rdV at h ⊢
  split at h
  · rename_i h1; exact absurd h h1
  · rename_i h1
    split at h
    · rename_i h2; exact absurd h h2
    · rename_i h2
      refine ⟨Classical.not_not.mp h1, Classical.not_not.mp h2, ?_, ?_⟩
      · rw [if_neg h1, if_neg h2]
        cases hx : ixW vs (wd B t) with
        | none => rw [hx] at h; simp at h
        | some v => rfl
      · unfold rdV at hl; exact hl
def rowOK (m : Nat) (outs : List Wd) (r : Row) : Prop := (∀ i, r.1.getD i 0 < 64) ∧ r.2 < outs.length ∧ r.1.length = m
theorem rdRow_ok {B : Nat → Nat} {n m : Nat} {cols : Nat → List Wd} {outs : List Wd} {t : Tok} (hv : TV B n t) (hc : ∀ i, i < m → (cols i).length ≤ 6) : TV B n (rdRow B n cols m outs t).2.2 ∧ ((rdRow B n cols m outs t).1 = 0 → rowOK m outs (rdRow B n cols m outs t).2.1) := by
  have hk := rcI_ok (cols := cols) (bad := 0) hv m hc
  have ha := nd_tv (bad := (rcI B n cols m 0 t).1) (c := 256) hk.1
  have hb := rdV_tv (vs := outs) (bad := (nd B n (rcI B n cols m 0 t).1 (rcI B n cols m 0 t).2.2 256).1) ha
  refine ⟨nd_tv hb, fun h => ?_⟩
  have e1 := nd_pos (show (nd B n _ _ 59).1 = 0 from h)
  have e2 := rdV_z e1.1
  have e3 := nd_pos e2.1
  have hl : (rcI B n cols m 0 t).2.1.length = m := rcI_len m
  refine ⟨fun i => ?_, e2.2.2.2, hl⟩
  by_cases him : i < m
  · exact hk.2 e3.1 i him
  · show (rcI B n cols m 0 t).2.1.getD i 0 < 64
    rw [List.getD_eq_getElem?_getD, List.getElem?_eq_none (by omega)]
    decide
theorem rdRows_ok {B : Nat → Nat} {n : Nat} {ins : List Col} {outs : List Wd} (hc : ∀ i, i < ins.length → (colsOf ins i).length ≤ 6) : ∀ (f : Nat) (rows : List Row) (t : Tok), (rdRows B n ins outs f rows t).1 = 0 → TV B n t → rows.length ≤ 40 → (∀ r ∈ rows, rowOK ins.length outs r) → (rdRows B n ins outs f rows t).2.1.length ≤ 40 ∧ ∀ r ∈ (rdRows B n ins outs f rows t).2.1, rowOK ins.length outs r
  | 0, rows, t, h, _, _, _ => by simp [rdRows] at h
  | f + 1, rows, t, h, hv, h40, hr => by
    simp only [rdRows] at h ⊢
    split at h
    · rename_i h1
      rw [if_pos h1]
      exact ⟨h40, hr⟩
    · rename_i h1
      rw [if_neg h1]
      split at h
      · simp at h
      · rename_i h2
        rw [if_neg h2]
        split at h
        · simp at h
        · rename_i h3
          rw [if_neg h3]
          split at h
          · rename_i h4; exact absurd h h4
          · rename_i h4
            rw [if_neg h4]
            have hk := rdRow_ok (outs := outs) (TV_nx hv) hc
            refine rdRows_ok hc f _ _ h hk.1 (by simp; omega) (fun r hm => ?_)
            rcases List.mem_append.mp hm with hm | hm
            · exact hr r hm
            · rw [List.mem_singleton] at hm
              subst hm
              exact hk.2 (Classical.not_not.mp h4)
def tabW (tab : Tab) : Prop := insOK tab.1 ∧ (∀ w ∈ tab.2.1, wOK w) ∧ ∀ r ∈ tab.2.2, r.1.length = tab.1.length
theorem mem_getD' {α : Type} {l : List α} {d : α} {i : Nat} (h : i < l.length) : l.getD i d ∈ l := by
  rw [List.getD_eq_getElem?_getD, List.getElem?_eq_getElem h]; exact List.getElem_mem h
theorem rdTable_ok {B : Nat → Nat} {n : Nat} (h : (rdTable B n).1 = 0) : tabOK (rdTable B n).2.1 ∧ tabW (rdTable B n).2.1 := by
  have hi := rdInputs_ok 6 [] (tokAt B n 0) (B := B) (n := n)
  simp only [rdTable] at h ⊢
  generalize rdInputs B n 6 [] (tokAt B n 0) = a at h hi ⊢
  split at h
  · rename_i h1; exact absurd h h1
  · rename_i h1
    rw [if_neg h1]
    have h1 := Classical.not_not.mp h1
    have hi := hi h1 (TV_at (Nat.zero_le _)) ⟨Nat.zero_le _, fun i hi => absurd hi (Nat.not_lt_zero i), by decide, List.nodup_nil, fun i hi => absurd hi (Nat.not_lt_zero i)⟩
    have ho := rdCol_ok (B := B) (n := n) (nms := a.2.1.map (fun c => c.1)) (ahead := 0) (t := a.2.2)
    have hw := fun h => rdCol_w (B := B) (n := n) (nms := a.2.1.map (fun c => c.1)) (ahead := 0) (t := a.2.2) h hi.2.2.1
    generalize rdCol B n (a.2.1.map (fun c => c.1)) 0 a.2.2 = o at h ho hw ⊢
    split at h
    · rename_i h2; exact absurd h h2
    · rename_i h2
      rw [if_neg h2]
      have h2 := Classical.not_not.mp h2
      have ho := ho h2
      have hw := hw h2
      have hc : ∀ i, i < a.2.1.length → (colsOf a.2.1 i).length ≤ 6 := fun i h => (hi.1.2.1 i h).2
      have hr := rdRows_ok (B := B) (n := n) (outs := o.2.2.1) hc 41 [] o.2.2.2
      generalize rdRows B n a.2.1 o.2.2.1 41 [] o.2.2.2 = r at h hr ⊢
      have hr := hr h hw.2.2.2 (Nat.zero_le _) (fun r hr => by cases hr)
      refine ⟨⟨Nat.one_le_iff_ne_zero.mpr hi.2.1, hi.1.1, fun i h => ?_, ?_, ho.1, ho.2.1, hr.1, fun r h => ?_⟩, hi.1, hw.2.2.1, fun r h => (hr.2 r h).2.2⟩
      · unfold tf; rw [szs_get]; exact hi.1.2.1 i h
      · have h400 := hi.1.2.2.1
        unfold csz at h400
        rw [szs_len] at h400
        exact h400
      · have := hr.2 _ (mem_getD' (d := dR0) h)
        exact ⟨this.1, this.2.1⟩
/-! ===== PROGRAMS as read: all TESTS, for each WHEN the number of TESTS before it and its VALUE, the VALUE behind else ===== -/
abbrev Prg : Type := List (Nat × Nat) × List (Nat × Nat) × Nat
def rdTest (B : Nat → Nat) (n : Nat) (ins : List Col) (t : Tok) : Nat × (Nat × Nat) × Tok :=
  if frF B t ≠ 0 then (frF B t, (0, 0), t) else match ixW (ins.map (fun c => c.1)) (wd B t) with
  | none => (3, (0, 0), t)
  | some i => if ¬ (tk (nx B n t) = 2 ∧ ts (nx B n t) = 58) then (1, (0, 0), nx B n t) else ((rdCell B n (colsOf ins i) 0 (nx B n (nx B n t))).1, (i, (rdCell B n (colsOf ins i) 0 (nx B n (nx B n t))).2.1), (rdCell B n (colsOf ins i) 0 (nx B n (nx B n t))).2.2)
def rdTs (B : Nat → Nat) (n : Nat) (ins : List Col) : Nat → List (Nat × Nat) → Tok → Nat × List (Nat × Nat) × Tok
  | 0, fs, t => (1, fs, t)
  | f + 1, fs, t => if (rdTest B n ins (nx B n t)).1 ≠ 0 then ((rdTest B n ins (nx B n t)).1, fs, (rdTest B n ins (nx B n t)).2.2) else if kwP B (rdTest B n ins (nx B n t)).2.2 23 = true then rdTs B n ins f (fs ++ [(rdTest B n ins (nx B n t)).2.1]) (rdTest B n ins (nx B n t)).2.2 else (0, fs ++ [(rdTest B n ins (nx B n t)).2.1], (rdTest B n ins (nx B n t)).2.2)
def ndK (B : Nat → Nat) (n bad : Nat) (t : Tok) (i : Nat) : Nat × Tok := if bad ≠ 0 then (bad, t) else if kwP B t i = true then (0, nx B n t) else (1, t)
def rdWhen (B : Nat → Nat) (n : Nat) (ins : List Col) (outs : List Wd) (fs : List (Nat × Nat)) (t : Tok) : Nat × (List (Nat × Nat) × Nat) × Tok :=
  let r := rdTs B n ins (200 - fs.length) fs t
  let a := ndK B n r.1 r.2.2 24
  let v := rdV B n outs a.1 a.2
  let e := nd B n v.1 v.2.2 59
  (e.1, (r.2.1, v.2.1), e.2)
def rdWhens (B : Nat → Nat) (n : Nat) (ins : List Col) (outs : List Wd) : Nat → List (Nat × Nat) → List (Nat × Nat) → Tok → Nat × (List (Nat × Nat) × List (Nat × Nat)) × Tok
  | 0, fs, ws, t => (1, (fs, ws), t)
  | f + 1, fs, ws, t => if kwP B t 25 = true then (0, (fs, ws), t) else if kwP B t 22 = false then (1, (fs, ws), t) else if ws.length = 40 then (2, (fs, ws), t) else if (rdWhen B n ins outs fs t).1 ≠ 0 then ((rdWhen B n ins outs fs t).1, (fs, ws), (rdWhen B n ins outs fs t).2.2) else rdWhens B n ins outs f (rdWhen B n ins outs fs t).2.1.1 (ws ++ [(fs.length, (rdWhen B n ins outs fs t).2.1.2)]) (rdWhen B n ins outs fs t).2.2
def rdProg (B : Nat → Nat) (n : Nat) (tab : Tab) : Nat × Prg × Tok :=
  let a := rdWhens B n tab.1 tab.2.1 41 [] [] (tokAt B n 0)
  if a.1 ≠ 0 then (a.1, (a.2.1.1, a.2.1.2, 0), a.2.2) else
  let v := rdV B n tab.2.1 0 (nx B n a.2.2)
  let e := nd B n v.1 v.2.2 59
  if e.1 ≠ 0 then (e.1, (a.2.1.1, a.2.1.2, 0), e.2) else if tk e.2 ≠ 0 then (1, (a.2.1.1, a.2.1.2, 0), e.2) else (0, (a.2.1.1, a.2.1.2, v.2.1), e.2)
theorem kwP_te {B : Nat → Nat} {t : Tok} {i : Nat} (h : kwP B t i = true) (hi : i < 30) : tk t = 1 ∧ te t - tb t = sLen i := by
  simp only [kwP, decide_eq_true_eq] at h
  have := wd_len (B := B) (t := t)
  rw [h.2, sW_len i hi] at this
  exact ⟨h.1, this.symm⟩
theorem rdTest_ok {B : Nat → Nat} {n : Nat} {ins : List Col} (hi : insOK ins) {t : Tok} (hv : TV B n t) : TV B n (rdTest B n ins t).2.2 ∧ ((rdTest B n ins t).1 = 0 → tb t + 3 ≤ tb (rdTest B n ins t).2.2 ∧ (rdTest B n ins t).2.1.1 < ins.length ∧ (rdTest B n ins t).2.1.2 < 64) := by
  unfold rdTest
  split
  · rename_i h; exact ⟨hv, fun h2 => absurd h2 h⟩
  · rename_i h
    have h1 := (frF_0 (Classical.not_not.mp h)).1
    cases hx : ixW (ins.map (fun c => c.1)) (wd B t) with
    | none => exact ⟨hv, fun h => by simp at h⟩
    | some i =>
      have hl := (ixW_lt hx).1
      rw [List.length_map] at hl
      simp only
      split
      · exact ⟨TV_nx hv, fun h => by simp at h⟩
      · rename_i h2
        have h2 := Classical.not_not.mp h2
        have hk := rdCell_ok (vs := colsOf ins i) (bad := 0) (hi.2.1 i hl).2 (TV_nx (TV_nx hv))
        refine ⟨hk.1, fun h3 => ?_⟩
        have h4 := hk.2 h3
        have e0 := (TV_b hv).2.2.1 (by omega)
        have e1 := nx_ge (B := B) (n := n) (t := t)
        have e2 := (TV_b (TV_nx hv)).2.2.1 (by omega)
        have e3 := nx_ge (B := B) (n := n) (t := nx B n t)
        have e4 := (TV_b (TV_nx (TV_nx hv))).2.2.1 h4.2.2
        exact ⟨by show _ ≤ tb (rdCell B n (colsOf ins i) 0 (nx B n (nx B n t))).2.2; omega, hl, h4.1⟩
def fsOK (ins : List Col) (fs : List (Nat × Nat)) : Prop := ∀ q, q < fs.length → (fs.getD q (0, 0)).1 < ins.length ∧ (fs.getD q (0, 0)).2 < 64
theorem fsOK_add {ins : List Col} {fs : List (Nat × Nat)} {x : Nat × Nat} (h : fsOK ins fs) (h1 : x.1 < ins.length) (h2 : x.2 < 64) : fsOK ins (fs ++ [x]) := fun q hq => by
  by_cases hl : q < fs.length
  · rw [getD_app_lt hl]; exact h q hl
  · have : q = fs.length := by simp at hq; omega
    subst this
    rw [getD_app_eq]; exact ⟨h1, h2⟩
theorem rdTs_ok {B : Nat → Nat} {n : Nat} (hn : n ≤ 1000) {ins : List Col} (hi : insOK ins) : ∀ (f : Nat) (fs : List (Nat × Nat)) (t : Tok), TV B n t → 6 * fs.length ≤ te t → fsOK ins fs → TV B n (rdTs B n ins f fs t).2.2 ∧ ((rdTs B n ins f fs t).1 = 0 → 6 * (rdTs B n ins f fs t).2.1.length ≤ tb (rdTs B n ins f fs t).2.2 + 3 ∧ fsOK ins (rdTs B n ins f fs t).2.1 ∧ fs.length < (rdTs B n ins f fs t).2.1.length ∧ (rdTs B n ins f fs t).2.1.take fs.length = fs)
  | 0, fs, t, hv, _, _ => by simp [rdTs, hv]
  | f + 1, fs, t, hv, h6, hf => by
    have hk := rdTest_ok hi (TV_nx hv)
    have e1 := nx_ge (B := B) (n := n) (t := t)
    unfold rdTs
    split
    · rename_i h; exact ⟨hk.1, fun h2 => absurd h2 h⟩
    · rename_i h
      have h := Classical.not_not.mp h
      have h2 := hk.2 h
      split
      · rename_i h3
        have h4 := kwP_te h3 (by decide)
        have e5 := (TV_b hk.1).1
        have h23 : sLen 23 = 3 := by decide
        have ih := rdTs_ok hn hi f (fs ++ [(rdTest B n ins (nx B n t)).2.1]) _ hk.1 (by simp; omega) (fsOK_add hf h2.2.1 h2.2.2)
        refine ⟨ih.1, fun h5 => ?_⟩
        have i2 := ih.2 h5
        have hk2 := i2.2.2.2
        have i3 := i2.2.2.1
        rw [List.length_append, List.length_singleton] at i3
        refine ⟨i2.1, i2.2.1, by omega, ?_⟩
        have := congrArg (List.take fs.length) hk2
        rw [List.take_take, List.take_append_of_le_length (Nat.le_refl _), List.take_length] at this
        rw [List.length_append, List.length_singleton, show min fs.length (fs.length + 1) = fs.length by omega] at this
        exact this
      · refine ⟨hk.1, fun _ => ⟨?_, fsOK_add hf h2.2.1 h2.2.2, by simp, by simp⟩⟩
        show 6 * (fs ++ [(rdTest B n ins (nx B n t)).2.1]).length ≤ tb (rdTest B n ins (nx B n t)).2.2 + 3
        rw [List.length_append, List.length_singleton]
        omega
theorem rdTs_go {B : Nat → Nat} {n : Nat} {ins : List Col} {fs : List (Nat × Nat)} {t : Tok} (h : fs.length < 200) : rdTs B n ins (200 - fs.length) fs t = (if (rdTest B n ins (nx B n t)).1 ≠ 0 then ((rdTest B n ins (nx B n t)).1, fs, (rdTest B n ins (nx B n t)).2.2) else if kwP B (rdTest B n ins (nx B n t)).2.2 23 = true then rdTs B n ins (200 - (fs ++ [(rdTest B n ins (nx B n t)).2.1]).length) (fs ++ [(rdTest B n ins (nx B n t)).2.1]) (rdTest B n ins (nx B n t)).2.2 else (0, fs ++ [(rdTest B n ins (nx B n t)).2.1], (rdTest B n ins (nx B n t)).2.2)) := by
  obtain ⟨f, hf⟩ : ∃ f, 200 - fs.length = f + 1 := ⟨200 - fs.length - 1, by omega⟩
  rw [hf, List.length_append, List.length_singleton, show 200 - (fs.length + 1) = f by omega]
  rfl
theorem ndK_tv {B : Nat → Nat} {n bad i : Nat} {t : Tok} (hv : TV B n t) : TV B n (ndK B n bad t i).2 := by
  unfold ndK
  split
  · exact hv
  · split
    · exact TV_nx hv
    · exact hv
theorem ndK_pos {B : Nat → Nat} {n bad i : Nat} {t : Tok} (h : (ndK B n bad t i).1 = 0) : bad = 0 ∧ kwP B t i = true ∧ (ndK B n bad t i).2 = nx B n t := by
  unfold ndK at h ⊢
  split at h
  · rename_i h1; exact absurd h h1
  · rename_i h1
    rw [if_neg h1]
    split at h
    · rename_i h2
      rw [if_pos h2]
      exact ⟨Classical.not_not.mp h1, h2, rfl⟩
    · simp at h
theorem rdWhen_ok {B : Nat → Nat} {n : Nat} (hn : n ≤ 1000) {ins : List Col} (hi : insOK ins) {outs : List Wd} {fs : List (Nat × Nat)} {t : Tok} (hv : TV B n t) (h6 : 6 * fs.length ≤ te t) (hf : fsOK ins fs) : TV B n (rdWhen B n ins outs fs t).2.2 ∧ ((rdWhen B n ins outs fs t).1 = 0 → 6 * (rdWhen B n ins outs fs t).2.1.1.length ≤ tb (rdWhen B n ins outs fs t).2.2 ∧ fsOK ins (rdWhen B n ins outs fs t).2.1.1 ∧ fs.length < (rdWhen B n ins outs fs t).2.1.1.length ∧ (rdWhen B n ins outs fs t).2.1.1.take fs.length = fs ∧ (rdWhen B n ins outs fs t).2.1.2 < outs.length) := by
  have hk := rdTs_ok hn hi (200 - fs.length) fs t hv h6 hf
  have ha := ndK_tv (bad := (rdTs B n ins (200 - fs.length) fs t).1) (i := 24) hk.1
  have hb := rdV_tv (vs := outs) (bad := (ndK B n (rdTs B n ins (200 - fs.length) fs t).1 (rdTs B n ins (200 - fs.length) fs t).2.2 24).1) ha
  refine ⟨nd_tv hb, fun h => ?_⟩
  have e1 := nd_pos (show (nd B n _ _ 59).1 = 0 from h)
  have e2 := rdV_z e1.1
  have e3 := ndK_pos e2.1
  have h2 := hk.2 e3.1
  have h4 := kwP_te e3.2.1 (by decide)
  have h24 : sLen 24 = 4 := by decide
  have g1 := (TV_b hk.1).1
  have g2 := nx_ge (B := B) (n := n) (t := (rdTs B n ins (200 - fs.length) fs t).2.2)
  have g3 := (TV_b ha).1
  have g4 := nx_ge (B := B) (n := n) (t := (ndK B n (rdTs B n ins (200 - fs.length) fs t).1 (rdTs B n ins (200 - fs.length) fs t).2.2 24).2)
  have g5 := (TV_b hb).1
  have g6 := nx_ge (B := B) (n := n) (t := (rdV B n outs (ndK B n (rdTs B n ins (200 - fs.length) fs t).1 (rdTs B n ins (200 - fs.length) fs t).2.2 24).1 (ndK B n (rdTs B n ins (200 - fs.length) fs t).1 (rdTs B n ins (200 - fs.length) fs t).2.2 24).2).2.2)
  rw [← e2.2.2.1] at g4
  rw [← e1.2.2.2] at g6
  rw [← e3.2.2] at g2
  have hk2 := h2.2.2.2
  refine ⟨?_, h2.2.1, h2.2.2.1, hk2, e2.2.2.2⟩
  have h21 := h2.1
  show 6 * (rdTs B n ins (200 - fs.length) fs t).2.1.length ≤ tb (nd B n _ _ 59).2
  omega
def wsOK (outs : List Wd) (fs ws : List (Nat × Nat)) : Prop := ws.length ≤ 40 ∧ (∀ w, w < ws.length → (ws.getD w (0, 0)).2 < outs.length ∧ (ws.getD w (0, 0)).1 ≤ fs.length) ∧ (∀ w, w + 1 < ws.length → (ws.getD w (0, 0)).1 ≤ (ws.getD (w + 1) (0, 0)).1)
theorem wsOK_add {outs : List Wd} {fs fs' ws : List (Nat × Nat)} {v : Nat} (h : wsOK outs fs ws) (h40 : ws.length < 40) (hl : fs.length ≤ fs'.length) (hv : v < outs.length) : wsOK outs fs' (ws ++ [(fs.length, v)]) := by
  refine ⟨by simp; omega, fun w hw => ?_, fun w hw => ?_⟩
  · by_cases h1 : w < ws.length
    · rw [getD_app_lt h1]; have := h.2.1 w h1; exact ⟨this.1, by omega⟩
    · have : w = ws.length := by simp at hw; omega
      subst this
      rw [getD_app_eq]; exact ⟨hv, hl⟩
  · rw [List.length_append, List.length_singleton] at hw
    rw [getD_app_lt (show w < ws.length by omega)]
    by_cases h1 : w + 1 < ws.length
    · rw [getD_app_lt h1]; exact h.2.2 w h1
    · have : w + 1 = ws.length := by omega
      rw [this, getD_app_eq]
      exact (h.2.1 w (by omega)).2
theorem rdWhens_ok {B : Nat → Nat} {n : Nat} (hn : n ≤ 1000) {ins : List Col} (hi : insOK ins) {outs : List Wd} : ∀ (f : Nat) (fs ws : List (Nat × Nat)) (t : Tok), TV B n t → 6 * fs.length ≤ tb t → fsOK ins fs → wsOK outs fs ws → (rdWhens B n ins outs f fs ws t).1 = 0 → TV B n (rdWhens B n ins outs f fs ws t).2.2 ∧ 6 * (rdWhens B n ins outs f fs ws t).2.1.1.length ≤ tb (rdWhens B n ins outs f fs ws t).2.2 ∧ fsOK ins (rdWhens B n ins outs f fs ws t).2.1.1 ∧ wsOK outs (rdWhens B n ins outs f fs ws t).2.1.1 (rdWhens B n ins outs f fs ws t).2.1.2
  | 0, fs, ws, t, _, _, _, _, h => by simp [rdWhens] at h
  | f + 1, fs, ws, t, hv, h6, hf, hw, h => by
    unfold rdWhens at h ⊢
    split at h
    · rename_i h1
      rw [if_pos h1]
      exact ⟨hv, h6, hf, hw⟩
    · rename_i h1
      rw [if_neg h1]
      split at h
      · simp at h
      · rename_i h2
        rw [if_neg h2]
        split at h
        · simp at h
        · rename_i h3
          rw [if_neg h3]
          split at h
          · rename_i h4; exact absurd h h4
          · rename_i h4
            rw [if_neg h4]
            have h4 := Classical.not_not.mp h4
            have hk := rdWhen_ok hn hi (outs := outs) hv (Nat.le_trans h6 (TV_b hv).1) hf
            have h5 := hk.2 h4
            exact rdWhens_ok hn hi f _ _ _ hk.1 h5.1 h5.2.1 (wsOK_add hw (by have := hw.1; omega) (by omega) h5.2.2.2.2) h
theorem rdWhens_go {B : Nat → Nat} {n : Nat} {ins : List Col} {outs : List Wd} {fs ws : List (Nat × Nat)} {t : Tok} (h : ws.length ≤ 40) : rdWhens B n ins outs (41 - ws.length) fs ws t = (if kwP B t 25 = true then (0, (fs, ws), t) else if kwP B t 22 = false then (1, (fs, ws), t) else if ws.length = 40 then (2, (fs, ws), t) else if (rdWhen B n ins outs fs t).1 ≠ 0 then ((rdWhen B n ins outs fs t).1, (fs, ws), (rdWhen B n ins outs fs t).2.2) else rdWhens B n ins outs (41 - (ws ++ [(fs.length, (rdWhen B n ins outs fs t).2.1.2)]).length) (rdWhen B n ins outs fs t).2.1.1 (ws ++ [(fs.length, (rdWhen B n ins outs fs t).2.1.2)]) (rdWhen B n ins outs fs t).2.2) := by
  obtain ⟨f, hf⟩ : ∃ f, 41 - ws.length = f + 1 := ⟨41 - ws.length - 1, by omega⟩
  rw [hf, List.length_append, List.length_singleton, show 41 - (ws.length + 1) = f by omega]
  rfl
def prgOK (tab : Tab) (g : Prg) : Prop := fsOK tab.1 g.1 ∧ wsOK tab.2.1 g.1 g.2.1 ∧ g.2.2 < tO tab ∧ 6 * g.1.length ≤ 1000
theorem rdProg_ok {B : Nat → Nat} {n : Nat} (hn : n ≤ 1000) {tab : Tab} (hi : tabW tab) (h : (rdProg B n tab).1 = 0) : prgOK tab (rdProg B n tab).2.1 := by
  have hk := rdWhens_ok hn hi.1 (outs := tab.2.1) 41 [] [] (tokAt B n 0) (TV_at (Nat.zero_le _)) (Nat.zero_le _) (fun q hq => absurd hq (Nat.not_lt_zero q)) ⟨Nat.zero_le _, fun w hw => absurd hw (Nat.not_lt_zero w), fun w hw => absurd hw (Nat.not_lt_zero _)⟩
  simp only [rdProg] at h ⊢
  generalize rdWhens B n tab.1 tab.2.1 41 [] [] (tokAt B n 0) = a at h hk ⊢
  split at h
  · rename_i h1; exact absurd h h1
  · rename_i h1
    rw [if_neg h1]
    have hk := hk (Classical.not_not.mp h1)
    split at h
    · rename_i h2; exact absurd h h2
    · rename_i h2
      rw [if_neg h2]
      split at h
      · simp at h
      · rename_i h3
        rw [if_neg h3]
        have e1 := nd_pos (Classical.not_not.mp h2)
        have e2 := rdV_z e1.1
        refine ⟨hk.2.2.1, hk.2.2.2, e2.2.2.2, ?_⟩
        have := (TV_b hk.1)
        have h4 := hk.2.1
        show 6 * a.2.1.1.length ≤ 1000
        omega
/-- the reference holds TESTS and WHENS -/
def TST (iv : IV) (P : Nat) (fs : List (Nat × Nat)) : Prop := ∀ q, q < fs.length → iv 20 (200 * P + q) = nI (fs.getD q (0, 0)).1 ∧ iv 21 (200 * P + q) = nI (fs.getD q (0, 0)).2
def WST (iv : IV) (P : Nat) (ws : List (Nat × Nat)) : Prop := ∀ w, w < ws.length → iv 19 (41 * P + w) = nI (ws.getD w (0, 0)).1 ∧ iv 18 (41 * P + w) = nI (ws.getD w (0, 0)).2
def PRG (iv : IV) (P : Nat) (g : Prg) : Prop := iv 17 P = nI g.2.1.length ∧ TST iv P g.1 ∧ WST iv P g.2.1 ∧ iv 19 (41 * P + g.2.1.length) = nI g.1.length ∧ iv 18 (41 * P + g.2.1.length) = nI g.2.2
abbrev pP (P : Nat) : Nat → Nat → Prop := fun lb j => (lb = 0 ∧ 29 ≤ j ∧ j ≤ 36 ∧ j ≠ 30) ∨ (lb = 0 ∧ j = 22) ∨ (lb = 17 ∧ j = P) ∨ ((lb = 18 ∨ lb = 19) ∧ 41 * P ≤ j ∧ j < 41 * P + 41) ∨ ((lb = 20 ∨ lb = 21) ∧ 200 * P ≤ j ∧ j < 200 * P + 200)
theorem TST.fr {iv iv' : IV} {P : Nat} {fs : List (Nat × Nat)} {Q : Nat → Nat → Prop} (h : TST iv P fs) (hF : Fr iv iv' Q) (hQ : ∀ lb j, lb = 20 ∨ lb = 21 → 200 * P ≤ j → j < 200 * P + fs.length → ¬ Q lb j) : TST iv' P fs := fun q hq =>
  ⟨(hF 20 _ (hQ 20 _ (by decide) (by omega) (by omega))).trans (h q hq).1, (hF 21 _ (hQ 21 _ (by decide) (by omega) (by omega))).trans (h q hq).2⟩
theorem WST.fr {iv iv' : IV} {P : Nat} {ws : List (Nat × Nat)} {Q : Nat → Nat → Prop} (h : WST iv P ws) (hF : Fr iv iv' Q) (hQ : ∀ lb j, lb = 18 ∨ lb = 19 → 41 * P ≤ j → j < 41 * P + ws.length → ¬ Q lb j) : WST iv' P ws := fun q hq =>
  ⟨(hF 19 _ (hQ 19 _ (by decide) (by omega) (by omega))).trans (h q hq).1, (hF 18 _ (hQ 18 _ (by decide) (by omega) (by omega))).trans (h q hq).2⟩
theorem TABL.frP {iv iv' : IV} {T P : Nat} {tab : Tab} (h : TABL iv T tab) (hF : Fr iv iv' (pP P)) : TABL iv' T tab := INS.f2 h hF (fun lb j hp => by simp only [pP] at hp; omega)
/-- what a PROGRAM answers -/
def wto (g : Prg) (w : Nat) : Nat := if w + 1 < g.2.1.length then (g.2.1.getD (w + 1) (0, 0)).1 else g.1.length
def whI (tab : Tab) (g : Prg) (c q : Nat) : Nat → Bool
  | 0 => true
  | k + 1 => whI tab g c q k && (g.1.getD (q + k) (0, 0)).2.testBit (vOf (tf tab) (tm tab) c (g.1.getD (q + k) (0, 0)).1)
theorem whI_f {tab : Tab} {g : Prg} {c q i : Nat} (h : whI tab g c q i = false) : ∀ k, whI tab g c q (i + k) = false
  | 0 => h
  | k + 1 => by rw [← Nat.add_assoc, whI, whI_f h k]; rfl
theorem whI_le {tab : Tab} {g : Prg} {c q i j : Nat} (h : whI tab g c q i = false) (hij : i ≤ j) : whI tab g c q j = false := by
  have := whI_f h (j - i)
  rwa [show i + (j - i) = j by omega] at this
def wh (tab : Tab) (g : Prg) (c w : Nat) : Bool := whI tab g c (g.2.1.getD w (0, 0)).1 (wto g w - (g.2.1.getD w (0, 0)).1)
def pAns (tab : Tab) (g : Prg) (c : Nat) : Nat := match fnd (fun w => wh tab g c w) g.2.1.length with
  | none => g.2.2
  | some w => (g.2.1.getD w (0, 0)).2
theorem pAns_lt {tab : Tab} {g : Prg} (h : prgOK tab g) {c : Nat} : pAns tab g c < tO tab := by
  unfold pAns
  cases hf : fnd (fun w => wh tab g c w) g.2.1.length with
  | none => exact h.2.2.1
  | some w => exact (h.2.1.2.1 w (fnd_lt hf).1).1
def pFail (tab : Tab) (g : Prg) (r : Int32) (c : Nat) : Bool := match frow tab c with
  | none => false
  | some by_ => (decide (r = -1) || decide (nI by_ = r)) && decide (pAns tab g c ≠ tvv tab by_)
theorem wto_b {tab : Tab} {g : Prg} (h : prgOK tab g) {w : Nat} (hw : w < g.2.1.length) : (g.2.1.getD w (0, 0)).1 ≤ wto g w ∧ wto g w ≤ g.1.length := by
  unfold wto
  split
  · rename_i h1; exact ⟨h.2.1.2.2 w h1, (h.2.1.2.1 (w + 1) h1).2⟩
  · exact ⟨(h.2.1.2.1 w hw).2, Nat.le_refl _⟩
theorem ixW_nd {vs : List Wd} {w : Wd} {i : Nat} (hn : vs.Nodup) (hi : i < vs.length) (h : vs.getD i [] = w) : ixW vs w = some i := by
  refine ixW_some hi h (fun u hu h2 => ?_)
  have e1 : vs[u]? = some w := by rw [List.getD_eq_getElem?_getD, List.getElem?_eq_getElem (by omega)] at h2; rw [List.getElem?_eq_getElem (by omega)]; simpa using h2
  have e2 : vs[i]? = some w := by rw [List.getD_eq_getElem?_getD, List.getElem?_eq_getElem hi] at h; rw [List.getElem?_eq_getElem hi]; simpa using h
  have := nodup_ix hn e1 e2
  omega
theorem rdTest_n {B : Nat → Nat} {n : Nat} {ins : List Col} {t : Tok} (h : frF B t = 0) (hx : ixW (ins.map (fun c => c.1)) (wd B t) = none) : rdTest B n ins t = (3, (0, 0), t) := by
  unfold rdTest; rw [if_neg (by simp [h]), hx]
theorem rdTest_s {B : Nat → Nat} {n i : Nat} {ins : List Col} {t : Tok} (h : frF B t = 0) (hx : ixW (ins.map (fun c => c.1)) (wd B t) = some i) (hn : ¬ (tk (nx B n t) = 2 ∧ ts (nx B n t) = 58)) : rdTest B n ins t = (1, (0, 0), nx B n t) := by
  unfold rdTest; rw [if_neg (by simp [h]), hx]; simp only; rw [if_pos hn]
theorem rdTest_k {B : Nat → Nat} {n i : Nat} {ins : List Col} {t : Tok} (h : frF B t = 0) (hx : ixW (ins.map (fun c => c.1)) (wd B t) = some i) (hn : tk (nx B n t) = 2 ∧ ts (nx B n t) = 58) : rdTest B n ins t = ((rdCell B n (colsOf ins i) 0 (nx B n (nx B n t))).1, (i, (rdCell B n (colsOf ins i) 0 (nx B n (nx B n t))).2.1), (rdCell B n (colsOf ins i) 0 (nx B n (nx B n t))).2.2) := by
  unfold rdTest; rw [if_neg (by simp [h]), hx]; simp only; rw [if_neg (by simp [hn])]
theorem nm_get {ins : List Col} {o : Nat} (h : o < ins.length) : (ins.map (fun c => c.1)).getD o [] = (ins.getD o dC0).1 := by
  simp [List.getD_eq_getElem?_getD, h]
theorem ts_step {B : Nat → Nat} {n : Nat} {ins : List Col} (hi : insOK ins) {k : Nat} {t : Tok} (hv : TV B n t) (h6 : 6 * k ≤ te t) (h : (rdTest B n ins (nx B n t)).1 = 0) (hk : kwP B (rdTest B n ins (nx B n t)).2.2 23 = true) : 6 * (k + 1) ≤ te (rdTest B n ins (nx B n t)).2.2 := by
  have h1 := (rdTest_ok hi (TV_nx hv)).2 h
  have h2 := kwP_te hk (by decide)
  have h23 : sLen 23 = 3 := by decide
  have e1 := nx_ge (B := B) (n := n) (t := t)
  omega
theorem TST.add {iv : IV} {P : Nat} {fs : List (Nat × Nat)} {x : Nat × Nat} (h : TST iv P fs) (h1 : iv 20 (200 * P + fs.length) = nI x.1) (h2 : iv 21 (200 * P + fs.length) = nI x.2) : TST iv P (fs ++ [x]) := fun q hq => by
  by_cases hl : q < fs.length
  · rw [getD_app_lt hl]; exact h q hl
  · have : q = fs.length := by simp at hq; omega
    subst this
    rw [getD_app_eq]; exact ⟨h1, h2⟩
theorem WST.add {iv : IV} {P : Nat} {ws : List (Nat × Nat)} {a b : Nat} (h : WST iv P ws) (h1 : iv 19 (41 * P + ws.length) = nI a) (h2 : iv 18 (41 * P + ws.length) = nI b) : WST iv P (ws ++ [(a, b)]) := fun q hq => by
  by_cases hl : q < ws.length
  · rw [getD_app_lt hl]; exact h q hl
  · have : q = ws.length := by simp at hq; omega
    subst this
    rw [getD_app_eq]; exact ⟨h1, h2⟩
abbrev pX (P : Nat) : Nat → Nat → Prop := fun lb j => (lb = 0 ∧ 29 ≤ j ∧ j ≤ 36 ∧ j ≠ 30) ∨ (lb = 0 ∧ j = 22) ∨ ((lb = 20 ∨ lb = 21) ∧ 200 * P ≤ j ∧ j < 200 * P + 200)
