/-- how many TABLES a call of table makes -/
def tNew (a : AS) (x : Int32) : Nat := (aT (spTable a x).2.2).length - (aT a).length
def gNew (a : AS) (t x : Int32) : Nat := (aP (spProgram a t x).2.2).length - (aP a).length
theorem aTb_lt {a : AS} {k : Nat} : aTb a k = (aT a).getD k dT0 := rfl
theorem nd_c {B : Nat → Nat} {n bad : Nat} {t : Tok} {c : Nat} (h : bad ≤ 4) : (nd B n bad t c).1 ≤ 4 := by
  unfold nd; split
  · exact h
  · split
    · exact Nat.zero_le _
    · show 1 ≤ 4; omega
theorem ndK_c {B : Nat → Nat} {n bad : Nat} {t : Tok} {c : Nat} (h : bad ≤ 4) : (ndK B n bad t c).1 ≤ 4 := by
  unfold ndK; split
  · exact h
  · split
    · exact Nat.zero_le _
    · show 1 ≤ 4; omega
theorem rdV_c {B : Nat → Nat} {n bad : Nat} {vs : List Wd} {t : Tok} (h : bad ≤ 4) : (rdV B n vs bad t).1 ≤ 4 := by
  have h2 := frF_le (B := B) (t := t)
  unfold rdV; split
  · exact h
  · split
    · show frF B t ≤ 4; omega
    · split
      · show 3 ≤ 4; omega
      · exact Nat.zero_le _
theorem rdVals_c {B : Nat → Nat} {n ahead : Nat} : ∀ (f : Nat) (acc : List Wd) (t : Tok), (rdVals B n ahead f acc t).1 ≤ 4
  | 0, _, _ => by show 1 ≤ 4; omega
  | f + 1, acc, t => by
    have h2 := frF_le (B := B) (t := t)
    rw [rdVals]; split
    · exact Nat.zero_le _
    · split
      · show frF B t ≤ 4; omega
      · split
        · show 2 ≤ 4; omega
        · split
          · exact Nat.le_refl 4
          · exact rdVals_c f _ _
theorem rdCol_c {B : Nat → Nat} {n ahead : Nat} {nms : List Wd} {t : Tok} : (rdCol B n nms ahead t).1 ≤ 4 := by
  have h2 := frF_le (B := B) (t := nx B n t)
  unfold rdCol; dsimp only; split
  · show frF _ _ ≤ 4; omega
  · split
    · exact Nat.le_refl 4
    · split
      · show 1 ≤ 4; omega
      · exact rdVals_c _ _ _
theorem rdInputs_c {B : Nat → Nat} {n : Nat} : ∀ (f : Nat) (ins : List Col) (t : Tok), (rdInputs B n f ins t).1 ≤ 4
  | 0, _, _ => by show 1 ≤ 4; omega
  | f + 1, ins, t => by
    rw [rdInputs]; split
    · exact Nat.zero_le _
    · split
      · show 1 ≤ 4; omega
      · split
        · show 2 ≤ 4; omega
        · dsimp only; split
          · exact rdCol_c
          · exact rdInputs_c f _ _
theorem rdBits_c {B : Nat → Nat} {n : Nat} {vs : List Wd} : ∀ (f b : Nat) (t : Tok), (rdBits B n vs f b t).1 ≤ 4
  | 0, _, _ => by show 1 ≤ 4; omega
  | f + 1, b, t => by
    have h2 := frF_le (B := B) (t := t)
    rw [rdBits]; split
    · show frF B t ≤ 4; omega
    · split
      · show 3 ≤ 4; omega
      · split
        · exact Nat.le_refl 4
        · split
          · exact rdBits_c f _ _
          · exact Nat.zero_le _
theorem rdCell_c {B : Nat → Nat} {n bad : Nat} {vs : List Wd} {t : Tok} (h : bad ≤ 4) : (rdCell B n vs bad t).1 ≤ 4 := by
  unfold rdCell; split
  · exact h
  · split
    · exact Nat.zero_le _
    · split
      · dsimp only; split
        · exact rdV_c (Nat.zero_le _)
        · exact Nat.zero_le _
      · exact rdBits_c _ _ _
theorem rcI_c {B : Nat → Nat} {n bad : Nat} {cols : Nat → List Wd} {t : Tok} (h : bad ≤ 4) : ∀ i, (rcI B n cols i bad t).1 ≤ 4
  | 0 => h
  | i + 1 => rdCell_c (rcI_c h i)
theorem rdRow_c {B : Nat → Nat} {n m : Nat} {cols : Nat → List Wd} {outs : List Wd} {t : Tok} : (rdRow B n cols m outs t).1 ≤ 4 :=
  nd_c (rdV_c (nd_c (rcI_c (Nat.zero_le _) _)))
theorem rdRows_c {B : Nat → Nat} {n : Nat} {ins : List Col} {outs : List Wd} : ∀ (f : Nat) (rows : List Row) (t : Tok), (rdRows B n ins outs f rows t).1 ≤ 4
  | 0, _, _ => by show 1 ≤ 4; omega
  | f + 1, rows, t => by
    rw [rdRows]; split
    · exact Nat.zero_le _
    · split
      · show 1 ≤ 4; omega
      · split
        · show 2 ≤ 4; omega
        · dsimp only; split
          · exact rdRow_c
          · exact rdRows_c f _ _
theorem rdTable_c {B : Nat → Nat} {n : Nat} : (rdTable B n).1 ≤ 4 := by
  unfold rdTable; dsimp only; split
  · exact rdInputs_c _ _ _
  · split
    · exact rdCol_c
    · exact rdRows_c _ _ _
theorem rdTest_c {B : Nat → Nat} {n : Nat} {ins : List Col} {t : Tok} : (rdTest B n ins t).1 ≤ 4 := by
  have h2 := frF_le (B := B) (t := t)
  unfold rdTest; split
  · show frF B t ≤ 4; omega
  · split
    · show 3 ≤ 4; omega
    · split
      · show 1 ≤ 4; omega
      · exact rdCell_c (Nat.zero_le _)
theorem rdTs_c {B : Nat → Nat} {n : Nat} {ins : List Col} : ∀ (f : Nat) (fs : List (Nat × Nat)) (t : Tok), (rdTs B n ins f fs t).1 ≤ 4
  | 0, _, _ => by show 1 ≤ 4; omega
  | f + 1, fs, t => by
    rw [rdTs]; split
    · exact rdTest_c
    · split
      · exact rdTs_c f _ _
      · exact Nat.zero_le _
theorem rdWhen_c {B : Nat → Nat} {n : Nat} {ins : List Col} {outs : List Wd} {fs : List (Nat × Nat)} {t : Tok} : (rdWhen B n ins outs fs t).1 ≤ 4 :=
  nd_c (rdV_c (ndK_c (rdTs_c _ _ _)))
theorem rdWhens_c {B : Nat → Nat} {n : Nat} {ins : List Col} {outs : List Wd} : ∀ (f : Nat) (fs ws : List (Nat × Nat)) (t : Tok), (rdWhens B n ins outs f fs ws t).1 ≤ 4
  | 0, _, _, _ => by show 1 ≤ 4; omega
  | f + 1, fs, ws, t => by
    rw [rdWhens]; split
    · exact Nat.zero_le _
    · split
      · show 1 ≤ 4; omega
      · split
        · show 2 ≤ 4; omega
        · split
          · exact rdWhen_c
          · exact rdWhens_c f _ _ _
theorem rdProg_c {B : Nat → Nat} {n : Nat} {tab : Tab} : (rdProg B n tab).1 ≤ 4 := by
  unfold rdProg; dsimp only; split
  · exact rdWhens_c _ _ _ _
  · split
    · exact nd_c (rdV_c (Nat.zero_le _))
    · split
      · show 1 ≤ 4; omega
      · exact Nat.zero_le _
/-- what table and program may write: the reader's arrays, three or four fields, the own new part -/
def fPt (b : Nat) (lb j : Nat) : Prop := (lb = 100 ∧ (j = 1 ∨ j = 4 ∨ j = 9)) ∨ (102 ≤ lb ∧ lb ≤ 106) ∨ (b ≤ lb ∧ lb < b + 1040)
def fPp (w : Nat) (lb j : Nat) : Prop := (lb = 100 ∧ (j = 1 ∨ j = 6 ∨ j = 9)) ∨ (102 ≤ lb ∧ lb ≤ 106) ∨ (20000 ≤ lb ∧ lb < 20004) ∨ (w + 100 ≤ lb ∧ lb < w + 102)
theorem cOu.fr {iv iv' : IV} {o : List Nat} {P : Nat → Nat → Prop} (h : cOu iv o) (hF : Fr iv iv' P) (hP : ∀ lb j, 109 ≤ lb → lb < 111 → ¬ P lb j) : cOu iv' o :=
  ⟨(hF _ _ (hP _ _ (by omega) (by omega))).trans h.1, h.2.1, fun k h1 h2 => ⟨(hF _ _ (hP _ _ (by omega) (by omega))).trans (h.2.2 k h1 h2).1, (h.2.2 k h1 h2).2⟩⟩
theorem stK {G : GW} {iv iv' : IV} {jv jv' : JV} {a : AS} {T b : Nat} {f : Int32} (h : CSt G iv jv a) (hTe : T = (aT a).length) (hbe : b = bL T) (hF : Fr iv iv' (fPt b)) (hJ : FrJ jv jv' (fPt b)) (h1 : iv' 100 1 = nI 0) (h4 : iv' 100 4 = nI T) (h9 : iv' 100 9 = f) : CSt G iv' jv' (0, aY a, f, aT a, aP a, aO a) := by
  subst hTe hbe
  obtain ⟨h0, hw, ⟨t1, t2, t3, t4⟩, h3, ⟨b1, b2, b3⟩, ⟨p1, p2, p3⟩, hO, h7⟩ := h
  have n1 : ∀ lb j, ¬ fPt (bL (aT a).length) lb j ↔ ¬ ((lb = 100 ∧ (j = 1 ∨ j = 4 ∨ j = 9)) ∨ (102 ≤ lb ∧ lb ≤ 106) ∨ (10000 + 1000 * (aT a).length ≤ lb ∧ lb < 10000 + 1000 * (aT a).length + 1040)) := fun lb j => Iff.rfl
  refine ⟨h0, hw, ⟨h1, Nat.zero_le _, fun k hk => absurd hk (Nat.not_lt_zero k), fun k hk => absurd hk (Nat.not_lt_zero k)⟩, h9, ⟨h4, b2, fun k hk => (b3 k hk).fr2 hF hJ (fun lb j h1 h2 => ?_) (fun lb j h1 h2 => ?_)⟩, ⟨(hF _ _ ((n1 _ _).mpr (by omega))).trans p1, p2, fun j hj => (p3 j hj).fr hF (fun i => (n1 _ _).mpr (by unfold gL; omega))⟩, hO.fr hF (fun lb j h1 h2 => (n1 _ _).mpr (by omega)), h7⟩
  all_goals (have hk' : k < (aT a).length := hk; rw [n1]; unfold bL at h1 h2; omega)
theorem stT {G G' : GW} {iv iv' : IV} {jv jv' : JV} {a : AS} {T P b w : Nat} {tab : Tab} (h : CSt G iv jv a) (hTe : T = (aT a).length) (hPe : P = (aP a).length) (hbe : b = bL T) (hwe : w = wL P) (hT : T < 6) (hX : isX0 G') (hLa : isLa G' (b + 1000)) (hWh : isWh G' 20000) (q7 : G'.rv 100 7 = some (b + 1000)) (q8 : G'.rv 100 8 = some 20000) (hR7 : ∀ k, k < T → G'.rv 107 k = some (tL k)) (hRT : G'.rv 107 T = some (b + 100)) (hR8 : ∀ k, k < P → G'.rv 108 k = some (gL k)) (hTbs : ∀ k, k < T → isTb G' (tL k) (bL k) (tm (aTb a k)) (tC (aTb a k)) (tR (aTb a k)) (tT (aTb a k))) (hTbn : isTb G' (b + 100) b (tm tab) (tC tab) (tR tab) (tT tab)) (hPgs : ∀ k, k < P → isPg G' (gL k) (tL (aPg a k).1) (tC (aTb a (aPg a k).1))) (hF : Fr iv iv' (fPt b)) (hJ : FrJ jv jv' (fPt b)) (h1 : iv' 100 1 = nI 0) (h4 : iv' 100 4 = nI (T + 1)) (h9 : iv' 100 9 = -1) (hLy : LAY iv' jv' b tab) (hTd : TBd iv' (b + 100) tab) (hkt : tabOK tab) (hW : tabW tab) (hBd : ∀ lb ∈ G'.L, lb < 1000 ∨ (10000 ≤ lb ∧ lb < b + 1100) ∨ (20000 ≤ lb ∧ lb < w + 100)) (hkd : G'.kd = kdF) : CSt G' iv' jv' (0, aY a, -1, aT a ++ [tab], aP a, aO a) := by
  subst hTe hPe hbe hwe
  obtain ⟨-, -, -, -, ⟨-, b2, b3⟩, ⟨p1, p2, p3⟩, hO, -⟩ := h
  have n1 : ∀ lb j, ¬ fPt (bL (aT a).length) lb j ↔ ¬ ((lb = 100 ∧ (j = 1 ∨ j = 4 ∨ j = 9)) ∨ (102 ≤ lb ∧ lb ≤ 106) ∨ (10000 + 1000 * (aT a).length ≤ lb ∧ lb < 10000 + 1000 * (aT a).length + 1040)) := fun lb j => Iff.rfl
  have hlen : (aT a ++ [tab]).length = (aT a).length + 1 := by simp
  have hb : bL ((aT a).length + 1) = bL (aT a).length + 1000 := by unfold bL; omega
  have hg : ∀ k, k < (aT a).length → (aT a ++ [tab]).getD k dT0 = aTb a k := fun k hk => by
    unfold aTb; rw [List.getD_eq_getElem?_getD, List.getD_eq_getElem?_getD, List.getElem?_append_left hk]
  have hgn : (aT a ++ [tab]).getD (aT a).length dT0 = tab := by simp [List.getD_eq_getElem?_getD]
  refine ⟨hX, ?_, ⟨h1, Nat.zero_le _, fun k hk => absurd hk (Nat.not_lt_zero k), fun k hk => absurd hk (Nat.not_lt_zero k)⟩, h9, ⟨?_, ?_, fun k hk => ?_⟩, ⟨(hF _ _ ((n1 _ _).mpr (by omega))).trans p1, p2, fun j hj => ?_⟩, hO.fr hF (fun lb j h1 h2 => (n1 _ _).mpr (by omega)), ?_, hkd⟩
  · show isLa G' (bL (aT a ++ [tab]).length) ∧ isWh G' 20000 ∧ G'.rv 100 7 = some (bL (aT a ++ [tab]).length) ∧ _
    rw [hlen, hb]; exact ⟨hLa, hWh, q7, q8⟩
  · show iv' 100 4 = nI (aT a ++ [tab]).length
    rw [hlen]; exact h4
  · show (aT a ++ [tab]).length ≤ 6
    omega
  · have hk2 : k < (aT a).length + 1 := by rw [← hlen]; exact hk
    show cTb G' iv' jv' k ((aT a ++ [tab]).getD k dT0)
    by_cases hkT : k = (aT a).length
    · subst hkT; rw [hgn]; exact ⟨hRT, hTbn, hLy, hTd, hkt, hW⟩
    · have hk3 : k < (aT a).length := by omega
      rw [hg k hk3]
      have h0 := (b3 k hk3).fr2 hF hJ (fun lb j h1 h2 => by rw [n1]; unfold bL at h1 h2; omega) (fun lb j h1 h2 => by rw [n1]; unfold bL at h1 h2; omega)
      exact ⟨hR7 k hk3, hTbs k hk3, h0.2.2⟩
  · have hj2 : j < (aP a).length := hj
    show cPg G' iv' (aT a ++ [tab]) j (aPg a j)
    have h0 := (p3 j hj2).fr hF (fun i => (n1 _ _).mpr (by unfold gL; omega))
    have hx := h0.2.1
    have h5 := h0.2.2.2
    have h6 := hPgs j hj2
    unfold cPg
    rw [hg _ hx]
    exact ⟨hR8 j hj2, by rw [hlen]; omega, h6, h5⟩
  · show ∀ lb ∈ G'.L, lb < 1000 ∨ (10000 ≤ lb ∧ lb < bL (aT a ++ [tab]).length + 100) ∨ (20000 ≤ lb ∧ lb < wL (aP a).length + 100)
    rw [hlen, hb]; exact hBd
theorem stKp {G : GW} {iv iv' : IV} {jv jv' : JV} {a : AS} {P w : Nat} {f : Int32} (h : CSt G iv jv a) (hPe : P = (aP a).length) (hwe : w = wL P) (hF : Fr iv iv' (fPp w)) (hJ : FrJ jv jv' (fPp w)) (h1 : iv' 100 1 = nI 0) (h6 : iv' 100 6 = nI P) (h9 : iv' 100 9 = f) : CSt G iv' jv' (0, aY a, f, aT a, aP a, aO a) := by
  subst hPe hwe
  obtain ⟨h0, hw, ⟨t1, t2, t3, t4⟩, h3, ⟨b1, b2, b3⟩, ⟨p1, p2, p3⟩, hO, h7⟩ := h
  have n1 : ∀ lb j, ¬ fPp (wL (aP a).length) lb j ↔ ¬ ((lb = 100 ∧ (j = 1 ∨ j = 6 ∨ j = 9)) ∨ (102 ≤ lb ∧ lb ≤ 106) ∨ (20000 ≤ lb ∧ lb < 20004) ∨ (20000 + 1000 * (aP a).length + 100 ≤ lb ∧ lb < 20000 + 1000 * (aP a).length + 102)) := fun lb j => Iff.rfl
  refine ⟨h0, hw, ⟨h1, Nat.zero_le _, fun k hk => absurd hk (Nat.not_lt_zero k), fun k hk => absurd hk (Nat.not_lt_zero k)⟩, h9, ⟨(hF _ _ ((n1 _ _).mpr (by omega))).trans b1, b2, fun k hk => (b3 k hk).fr2 hF hJ (fun lb j h1 h2 => ?_) (fun lb j h1 h2 => ?_)⟩, ⟨h6, p2, fun j hj => (p3 j hj).fr hF (fun i => (n1 _ _).mpr (by have hk' : j < (aP a).length := hj; unfold gL; omega))⟩, hO.fr hF (fun lb j h1 h2 => (n1 _ _).mpr (by omega)), h7⟩
  all_goals (have hk' : k < (aT a).length := hk; rw [n1]; unfold bL at h1 h2; omega)
theorem stP {G G' : GW} {iv iv' : IV} {jv jv' : JV} {a : AS} {T P b w t : Nat} {g : Prg} (h : CSt G iv jv a) (hTe : T = (aT a).length) (hPe : P = (aP a).length) (hbe : b = bL T) (hwe : w = wL P) (hP : P < 12) (hX : isX0 G') (hLa : isLa G' b) (hWh : isWh G' 20000) (q7 : G'.rv 100 7 = some b) (q8 : G'.rv 100 8 = some 20000) (hR7 : ∀ k, k < T → G'.rv 107 k = some (tL k)) (hR8 : ∀ k, k < P → G'.rv 108 k = some (gL k)) (hRP : G'.rv 108 P = some (w + 100)) (hTbs : ∀ k, k < T → isTb G' (tL k) (bL k) (tm (aTb a k)) (tC (aTb a k)) (tR (aTb a k)) (tT (aTb a k))) (hPgs : ∀ k, k < P → isPg G' (gL k) (tL (aPg a k).1) (tC (aTb a (aPg a k).1))) (ht : t < T) (hPgn : isPg G' (w + 100) (tL t) (tC (aTb a t))) (hgk : prgOK (aTb a t) g) (hpa : ∀ d, d < tC (aTb a t) → iv' (w + 100 + 1) d = nI (pAns (aTb a t) g d)) (hF : Fr iv iv' (fPp w)) (hJ : FrJ jv jv' (fPp w)) (h1 : iv' 100 1 = nI 0) (h6 : iv' 100 6 = nI (P + 1)) (h9 : iv' 100 9 = -1) (hBd : ∀ lb ∈ G'.L, lb < 1000 ∨ (10000 ≤ lb ∧ lb < b + 100) ∨ (20000 ≤ lb ∧ lb < w + 1100)) (hkd : G'.kd = kdF) : CSt G' iv' jv' (0, aY a, -1, aT a, aP a ++ [(t, g)], aO a) := by
  subst hTe hPe hbe hwe
  obtain ⟨-, -, -, -, ⟨b1, b2, b3⟩, ⟨p1, p2, p3⟩, hO, -⟩ := h
  have n1 : ∀ lb j, ¬ fPp (wL (aP a).length) lb j ↔ ¬ ((lb = 100 ∧ (j = 1 ∨ j = 6 ∨ j = 9)) ∨ (102 ≤ lb ∧ lb ≤ 106) ∨ (20000 ≤ lb ∧ lb < 20004) ∨ (20000 + 1000 * (aP a).length + 100 ≤ lb ∧ lb < 20000 + 1000 * (aP a).length + 102)) := fun lb j => Iff.rfl
  have hlen : (aP a ++ [(t, g)]).length = (aP a).length + 1 := by simp
  have hb : wL ((aP a).length + 1) = wL (aP a).length + 1000 := by unfold wL; omega
  have hg : ∀ k, k < (aP a).length → (aP a ++ [(t, g)]).getD k dP0 = aPg a k := fun k hk => by
    unfold aPg; rw [List.getD_eq_getElem?_getD, List.getD_eq_getElem?_getD, List.getElem?_append_left hk]
  have hgn : (aP a ++ [(t, g)]).getD (aP a).length dP0 = (t, g) := by simp [List.getD_eq_getElem?_getD]
  refine ⟨hX, ?_, ⟨h1, Nat.zero_le _, fun k hk => absurd hk (Nat.not_lt_zero k), fun k hk => absurd hk (Nat.not_lt_zero k)⟩, h9, ⟨(hF _ _ ((n1 _ _).mpr (by omega))).trans b1, b2, fun k hk => ?_⟩, ⟨?_, ?_, fun j hj => ?_⟩, hO.fr hF (fun lb j h1 h2 => (n1 _ _).mpr (by omega)), ?_, hkd⟩
  · exact ⟨hLa, hWh, q7, q8⟩
  · have hk3 : k < (aT a).length := hk
    have h0 := (b3 k hk3).fr2 hF hJ (fun lb j h1 h2 => by rw [n1]; unfold bL at h1 h2; omega) (fun lb j h1 h2 => by rw [n1]; unfold bL at h1 h2; omega)
    exact ⟨hR7 k hk3, hTbs k hk3, h0.2.2⟩
  · show iv' 100 6 = nI (aP a ++ [(t, g)]).length
    rw [hlen]; exact h6
  · show (aP a ++ [(t, g)]).length ≤ 12
    omega
  · have hj2 : j < (aP a).length + 1 := by rw [← hlen]; exact hj
    show cPg G' iv' (aT a) j ((aP a ++ [(t, g)]).getD j dP0)
    by_cases hkT : j = (aP a).length
    · subst hkT; rw [hgn]; exact ⟨hRP, ht, hPgn, hgk, hpa⟩
    · have hj3 : j < (aP a).length := by omega
      rw [hg j hj3]
      have h0 := (p3 j hj3).fr hF (fun i => (n1 _ _).mpr (by unfold gL; omega))
      exact ⟨hR8 j hj3, h0.2.1, hPgs j hj3, h0.2.2.2⟩
  · show ∀ lb ∈ G'.L, lb < 1000 ∨ (10000 ≤ lb ∧ lb < bL (aT a).length + 100) ∨ (20000 ≤ lb ∧ lb < wL (aP a ++ [(t, g)]).length + 100)
    rw [hlen, hb]; exact hBd
