/-! ===== the state of both sides, and what each call answers ===== -/
/-- the tape's length and bytes, the FAULT's place, TABLES, PROGRAMS (of which TABLE), OUT -/
abbrev AS : Type := Nat × (Nat → Nat) × Int32 × List Tab × List (Nat × Prg) × List Nat
def aN (a : AS) : Nat := a.1
def aY (a : AS) : Nat → Nat := a.2.1
def aF (a : AS) : Int32 := a.2.2.1
def aT (a : AS) : List Tab := a.2.2.2.1
def aP (a : AS) : List (Nat × Prg) := a.2.2.2.2.1
def aO (a : AS) : List Nat := a.2.2.2.2.2
abbrev dT0 : Tab := ([], [], [])
abbrev dP0 : Nat × Prg := (0, ([], [], 0))
def aTb (a : AS) (T : Nat) : Tab := (aT a).getD T dT0
def aPg (a : AS) (P : Nat) : Nat × Prg := (aP a).getD P dP0
def cl (x : Int32) : Nat := x.toNatClampNeg
theorem cl_nI {n : Nat} (h : n < 2147483648) : cl (nI n) = n := clamp_nI h
abbrev RS : Type := Nat × Int32 × AS
def ok (v : Int32) (a : AS) : RS := (0, v, a)
def no (k : Nat) (a : AS) : RS := (k, 0, a)
def onK (k : Nat) (a : AS) (x : Int32) (n : Nat) (f : Nat → RS) : RS := if inI x n = true then f (cl x) else no k a
theorem onK_t {k : Nat} {a : AS} {j n : Nat} {f : Nat → RS} (h : j < n) (hn : n < 2147483648) : onK k a (nI j) n f = f j := by
  rw [onK, if_pos (inI_nI hn h), cl_nI (by omega)]
theorem onK_f {k : Nat} {a : AS} {x : Int32} {n : Nat} {f : Nat → RS} (h : inI x n = false) : onK k a x n f = no k a := by rw [onK, if_neg (by simp [h])]
theorem onK_no {a : AS} {x : Int32} {n : Nat} {f : Nat → RS} (h : ∀ j, f j = no 1 a) : onK 1 a x n f = no 1 a := by
  unfold onK; split
  · exact h _
  · rfl
def onM (a : AS) (x : Int32) (n : Nat) (f : Option Nat → RS) : RS := if x = -1 then f none else onK 1 a x n (fun j => f (some j))
theorem inI_lt {x : Int32} {n : Nat} (h : x < 0) : inI x n = false := by simp [inI, h]
theorem inI_ge {x : Int32} {n : Nat} (h : nI n ≤ x) : inI x n = false := by simp [inI, h]
theorem inI_t {x : Int32} {n : Nat} (h1 : ¬ x < 0) (h2 : ¬ nI n ≤ x) : inI x n = true := by simp [inI, h1, h2]
theorem nlt_le {x y : Int32} (h : ¬ x < y) : y ≤ x := Int32.not_lt.mp h
theorem lt_nle {x y : Int32} (h : x < y) : ¬ y ≤ x := Int32.not_le.mpr h
theorem inI_le {x : Int32} {k : Nat} (hk : k + 1 < 2147483648) (h1 : ¬ x < 0) (h2 : x ≤ nI k) : inI x (k + 1) = true := by
  obtain ⟨j, hj, rfl⟩ := nI_of h1
  rw [nI_leI hj (by omega)] at h2
  exact inI_nI hk (by omega)
theorem inI_gt {x : Int32} {k : Nat} (hk : k + 1 < 2147483648) (h2 : ¬ x ≤ nI k) : inI x (k + 1) = false := by
  cases h : inI x (k + 1) with
  | false => rfl
  | true =>
    obtain ⟨j, hj, rfl⟩ := inI_of hk h
    exact absurd (nI_le (show j ≤ k by omega) (by omega)) h2
theorem inI_out {x : Int32} {n : Nat} (hn : n < 2147483648) (h : ¬ inI x n = true) : x.toInt < 0 ∨ (n : Int) ≤ x.toInt := by
  by_cases h0 : x < 0
  · left; rw [Int32.lt_iff_toInt_lt] at h0; simpa using h0
  · right
    have h1 : nI n ≤ x := Classical.byContradiction (fun h1 => h (inI_t h0 h1))
    rw [Int32.le_iff_toInt_le, nI_toInt hn] at h1
    exact h1
/-! feed -/
def fW (a b c d e : Int32) (i : Nat) : Int32 := if i = 0 then a else if i = 1 then b else if i = 2 then c else if i = 3 then d else e
def fby (w : Nat → Int32) (j : Nat) : Nat := cl ((w (j / 4) >>> (nI (24 - 8 * (j % 4)) &&& 31)) &&& nI 255)
theorem and255 (x : Int32) : (x &&& nI 255) = nI (cl (x &&& nI 255)) ∧ cl (x &&& nI 255) < 256 := by
  have h : (x &&& nI 255).toBitVec = x.toBitVec &&& 255#32 := by rw [Int32.toBitVec_and]; rfl
  have h1 : (x.toBitVec &&& 255#32).toNat < 256 := by
    rw [BitVec.toNat_and]
    exact Nat.lt_of_le_of_lt Nat.and_le_right (by decide)
  have h2 : x &&& nI 255 = nI (x.toBitVec &&& 255#32).toNat := by
    apply Int32.toBitVec_inj.mp
    rw [h]
    apply BitVec.eq_of_toNat_eq
    show _ = (BitVec.ofNat 32 _).toNat
    rw [BitVec.toNat_ofNat, Nat.mod_eq_of_lt (by omega)]
  rw [h2, cl_nI (by omega)]
  exact ⟨rfl, h1⟩
def spFeed (a : AS) (w : Nat → Int32) : RS := if 1000 < aN a + 20 then ok (-1) a else ok (nI (aN a + 20)) (aN a + 20, fun k => if k < aN a then aY a k else fby w (k - aN a), aF a, aT a, aP a, aO a)
def spTable (a : AS) (x : Int32) : RS := onK 1 a x (aN a + 1) fun n => if (aT a).length = 6 then ok (-9) (0, aY a, -1, aT a, aP a, aO a) else if (rdTable (aY a) n).1 ≠ 0 then ok (-1 - nI (rdTable (aY a) n).1) (0, aY a, nI (tb (rdTable (aY a) n).2.2), aT a, aP a, aO a) else ok (nI (aT a).length) (0, aY a, -1, aT a ++ [(rdTable (aY a) n).2.1], aP a, aO a)
def spProgram (a : AS) (t x : Int32) : RS := onK 1 a t (aT a).length fun T => onK 2 a x (aN a + 1) fun n => if (aP a).length = 12 then ok (-9) (0, aY a, -1, aT a, aP a, aO a) else if (rdProg (aY a) n (aTb a T)).1 ≠ 0 then ok (-1 - nI (rdProg (aY a) n (aTb a T)).1) (0, aY a, nI (tb (rdProg (aY a) n (aTb a T)).2.2), aT a, aP a, aO a) else ok (nI (aP a).length) (0, aY a, -1, aT a, aP a ++ [(T, (rdProg (aY a) n (aTb a T)).2.1)], aO a)
def spFault (a : AS) : RS := ok (aF a) a
def nHo (tab : Tab) : Nat := cntN (fun c => (frow tab c).isNone) (tC tab)
def qRow (tab : Tab) (a : Nat) : Nat → List (Nat × Nat × Nat)
  | 0 => []
  | k + 1 => qRow tab a k ++ (if a < k then (match qAt tab a k with | none => [] | some c => [(a, k, c)]) else [])
def qUp (tab : Tab) : Nat → List (Nat × Nat × Nat)
  | 0 => []
  | a + 1 => qUp tab a ++ qRow tab a (tR tab)
def qL (tab : Tab) : List (Nat × Nat × Nat) := qUp tab (tR tab)
def spAbout (a : AS) (t w : Int32) : RS := onK 1 a t (aT a).length fun T => onK 1 a w 9 fun w => ok (if w = 0 then nI (tm (aTb a T)) else if w = 1 then nI (tC (aTb a T)) else if w = 2 then nI (tO (aTb a T)) else if w = 3 then nI (tR (aTb a T)) else if w = 4 then nI (nHo (aTb a T)) else if w = 5 then nI (qL (aTb a T)).length else if w = 6 then nI (cntN (fun r => idl (aTb a T) r) (tR (aTb a T))) else if w = 7 then nI (rule (aTb a T)).length else nI (offers (aTb a T)).length) a
def spAnswer (a : AS) (t c w : Int32) : RS := onK 1 a t (aT a).length fun T => onK 1 a c (tC (aTb a T)) fun c => onK 1 a w 3 fun w => ok (if w = 0 then oI (ans (aTb a T) c) else if w = 1 then oI (frow (aTb a T) c) else nI (cntN (fun r => fit (aTb a T) r c) (tR (aTb a T)))) a
def spValue (a : AS) (t c i : Int32) : RS := onK 1 a t (aT a).length fun T => onK 1 a c (tC (aTb a T)) fun c => onK 1 a i (tm (aTb a T)) fun i => ok (nI (vOf (tf (aTb a T)) (tm (aTb a T)) c i)) a
def nthH (tab : Tab) (i : Nat) : Option Nat := fnd (fun c => (frow tab c).isNone && decide (cntN (fun c => (frow tab c).isNone) c = i)) (tC tab)
def spHole (a : AS) (t i : Int32) : RS := onK 1 a t (aT a).length fun T => onK 1 a i (nHo (aTb a T)) fun i => ok (oI (nthH (aTb a T) i)) a
def spQuarrel (a : AS) (t i w : Int32) : RS := onK 1 a t (aT a).length fun T => onK 1 a i (qL (aTb a T)).length fun i => onK 1 a w 3 fun w => ok (if w = 0 then nI ((qL (aTb a T)).getD i (0, 0, 0)).1 else if w = 1 then nI ((qL (aTb a T)).getD i (0, 0, 0)).2.1 else nI ((qL (aTb a T)).getD i (0, 0, 0)).2.2) a
def spIdle (a : AS) (t r : Int32) : RS := onK 1 a t (aT a).length fun T => onK 1 a r (tR (aTb a T)) fun r => ok (bI (idl (aTb a T) r)) a
def spTerm (a : AS) (t i x : Int32) : RS := onK 1 a t (aT a).length fun T => onK 1 a i (rule (aTb a T)).length fun i => onM a x (tm (aTb a T)) fun o => ok (match o with | none => nI ((rule (aTb a T)).getD i (0, 0)).2 | some k => oI (tAt (aTb a T) ((rule (aTb a T)).getD i (0, 0)).1 k)) a
def held (tab : Tab) (t : Nat) : Nat := prd (fun k => if tAt tab t k = none then tf tab k else 1) (tm tab)
def spOffered (a : AS) (t i x : Int32) : RS := onK 1 a t (aT a).length fun T => onK 1 a i (offers (aTb a T)).length fun i => onM a x (tm (aTb a T)) fun o => ok (match o with | none => nI (held (aTb a T) ((offers (aTb a T)).getD i 0)) | some k => oI (tAt (aTb a T) ((offers (aTb a T)).getD i 0) k)) a
/-! tell -/
def tcI (tab : Tab) (t : Nat) : Nat → List Nat
  | 0 => []
  | i + 1 => tcI tab t i ++ (match tAt tab t i with | none => [] | some v => (if tcI tab t i = [] then sW 26 else sW 27) ++ (tab.1.getD i dC0).1 ++ sW 28 ++ (tab.1.getD i dC0).2.getD v [])
def tLn (tab : Tab) (x : Nat × Nat) : List Nat := tab.2.1.getD x.2 [] ++ (if tcI tab x.1 (tm tab) = [] then sW 29 else tcI tab x.1 (tm tab)) ++ [10]
def tTx (tab : Tab) : Nat → List Nat
  | 0 => []
  | k + 1 => tTx tab k ++ tLn tab ((rule tab).getD k (0, 0))
def text (tab : Tab) : List Nat := tTx tab (rule tab).length
def spTell (a : AS) (t : Int32) : RS := onK 1 a t (aT a).length fun T => ok (nI (text (aTb a T)).length) (aN a, aY a, aF a, aT a, aP a, text (aTb a T))
def spTold (a : AS) (k : Int32) : RS := onK 1 a k (min (aO a).length 2000) fun k => ok (nI ((aO a).getD k 0)) a
def spRun (a : AS) (p c : Int32) : RS := onK 1 a p (aP a).length fun P => onK 1 a c (tC (aTb a (aPg a P).1)) fun c => ok (nI (pAns (aTb a (aPg a P).1) (aPg a P).2 c)) a
def spFails (a : AS) (p r : Int32) : RS := onK 1 a p (aP a).length fun P => onM a r (tR (aTb a (aPg a P).1)) fun o => ok (nI (cntN (fun c => pFail (aTb a (aPg a P).1) (aPg a P).2 (oI o) c) (tC (aTb a (aPg a P).1)))) a
def spFailing (a : AS) (p r : Int32) : RS := onK 1 a p (aP a).length fun P => onM a r (tR (aTb a (aPg a P).1)) fun o => ok (oI (fnd (fun c => pFail (aTb a (aPg a P).1) (aPg a P).2 (oI o) c) (tC (aTb a (aPg a P).1)))) a
def pDif (tab : Tab) (g h : Prg) (c : Nat) : Bool := decide (pAns tab g c ≠ pAns tab h c)
def spChanged (a : AS) (p q w : Int32) : RS := onK 1 a p (aP a).length fun P => onK 1 a q (aP a).length fun Q => onK 1 a w 3 fun w => if (aPg a P).1 ≠ (aPg a Q).1 then no 2 a else ok (if w = 0 then nI (cntN (pDif (aTb a (aPg a P).1) (aPg a P).2 (aPg a Q).2) (tC (aTb a (aPg a P).1))) else if w = 1 then nI (cntN (fun c => pDif (aTb a (aPg a P).1) (aPg a P).2 (aPg a Q).2 c && (frow (aTb a (aPg a P).1) c).isNone) (tC (aTb a (aPg a P).1))) else oI (fnd (pDif (aTb a (aPg a P).1) (aPg a P).2 (aPg a Q).2) (tC (aTb a (aPg a P).1)))) a
def spCount (a : AS) (w : Int32) : RS := onK 1 a w 4 fun w => ok (if w = 0 then nI (aT a).length else if w = 1 then nI (aP a).length else if w = 2 then nI (aN a) else nI (min (aO a).length 2000)) a
/-! ===== the reference holds the state ===== -/
def mTp (iv : IV) (n : Nat) (Y : Nat → Nat) : Prop := iv 0 3 = nI n ∧ n ≤ 1000 ∧ (∀ k, k < n → iv 1 k = nI (Y k)) ∧ ∀ k, k < n → Y k < 256
def mTb (iv : IV) (l : List Tab) : Prop := iv 0 6 = nI l.length ∧ l.length ≤ 6 ∧ (∀ T, T < l.length → FT iv T (l.getD T dT0) ∧ tabW (l.getD T dT0) ∧ LD iv T (l.getD T dT0)) ∧ ∀ T, l.length ≤ T → T < 6 → iv 23 T = bI false ∧ iv 24 T = nI 0 ∧ iv 27 T = nI 0
def mPg (iv : IV) (l : List Tab) (p : List (Nat × Prg)) : Prop := iv 0 7 = nI p.length ∧ p.length ≤ 12 ∧ ∀ P, P < p.length → iv 16 P = nI (p.getD P dP0).1 ∧ (p.getD P dP0).1 < l.length ∧ PRG iv P (p.getD P dP0).2 ∧ prgOK (l.getD (p.getD P dP0).1 dT0) (p.getD P dP0).2
def mOu (iv : IV) (o : List Nat) : Prop := iv 0 4 = nI o.length ∧ o.length < 1000000 ∧ ∀ k, k < o.length → k < 2000 → iv 2 k = nI (o.getD k 0) ∧ o.getD k 0 < 128
def MSt (iv : IV) (a : AS) : Prop := mTp iv (aN a) (aY a) ∧ iv 0 5 = aF a ∧ mTb iv (aT a) ∧ mPg iv (aT a) (aP a) ∧ mOu iv (aO a)
abbrev pM : Nat → Nat → Prop := fun lb _ => lb ≤ 42
theorem mTp.fr {iv iv' : IV} {n : Nat} {Y : Nat → Nat} {P : Nat → Nat → Prop} (h : mTp iv n Y) (hF : Fr iv iv' P) (h0 : ¬ P 0 3) (h1 : ∀ k, ¬ P 1 k) : mTp iv' n Y :=
  ⟨(hF 0 3 h0).trans h.1, h.2.1, fun k hk => (hF 1 k (h1 k)).trans (h.2.2.1 k hk), h.2.2.2⟩
theorem TABL.fr {iv iv' : IV} {T : Nat} {tab : Tab} {P : Nat → Nat → Prop} (h : TABL iv T tab) (hF : Fr iv iv' P) (hP : ∀ lb j, 8 ≤ lb → lb ≤ 14 → ¬ P lb j) : TABL iv' T tab :=
  ⟨h.1.fr hF (hP _ _ (by decide) (by decide)) (fun _ _ _ => hP _ _ (by decide) (by decide)) (fun _ _ _ => hP _ _ (by decide) (by decide)) (fun _ _ _ => hP _ _ (by decide) (by decide)), h.2.1, h.2.2.1.fr hF (hP _ _ (by decide) (by decide)) (fun _ _ => hP _ _ (by decide) (by decide)) (fun _ _ _ _ => hP _ _ (by decide) (by decide)), h.2.2.2.fr h.1.2.1 hF (hP _ _ (by decide) (by decide)) (fun _ _ _ => hP _ _ (by decide) (by decide)) (fun _ _ _ => hP _ _ (by decide) (by decide))⟩
theorem FT.fr2 {iv iv' : IV} {T : Nat} {tab : Tab} {P : Nat → Nat → Prop} (h : FT iv T tab) (hF : Fr iv iv' P) (hP : ∀ lb j, 8 ≤ lb → lb ≤ 15 → ¬ P lb j) : FT iv' T tab :=
  ⟨h.1.fr hF (fun lb j h1 h2 => hP lb j h1 (by omega)), h.2.1, fun c hc => (hF 15 _ (hP 15 _ (by decide) (by decide))).trans (h.2.2 c hc)⟩
theorem LY.fr {iv iv' : IV} {T : Nat} {tab : Tab} {P : Nat → Nat → Prop} (h : LY iv T tab) (hk : tabOK tab) (hF : Fr iv iv' P) (h1 : ¬ P 24 T) (h2 : ¬ P 27 T) (h3 : ∀ lb j, lb = 25 ∨ lb = 26 ∨ lb = 28 → 400 * T ≤ j → j < 400 * T + 400 → ¬ P lb j) : LY iv' T tab := by
  have e1 := rule_len hk
  have e2 := offers_len hk
  exact ⟨(hF 24 T h1).trans h.1, fun k hk => ⟨(hF 25 _ (h3 25 _ (by decide) (by omega) (by omega))).trans (h.2.1 k hk).1, (hF 26 _ (h3 26 _ (by decide) (by omega) (by omega))).trans (h.2.1 k hk).2⟩, (hF 27 T h2).trans h.2.2.1, fun k hk => (hF 28 _ (h3 28 _ (by decide) (by omega) (by omega))).trans (h.2.2.2 k hk)⟩
theorem LD.fr {iv iv' : IV} {T : Nat} {tab : Tab} {P : Nat → Nat → Prop} (h : LD iv T tab) (hk : tabOK tab) (hF : Fr iv iv' P) (h0 : ¬ P 23 T) (h1 : ¬ P 24 T) (h2 : ¬ P 27 T) (h3 : ∀ lb j, lb = 25 ∨ lb = 26 ∨ lb = 28 → 400 * T ≤ j → j < 400 * T + 400 → ¬ P lb j) : LD iv' T tab := by
  obtain ⟨b, hb, ht, hf⟩ := h
  exact ⟨b, (hF 23 T h0).trans hb, fun h => (ht h).fr hk hF h1 h2 h3, fun h => ⟨(hF 24 T h1).trans (hf h).1, (hF 27 T h2).trans (hf h).2⟩⟩
theorem mTb.fr {iv iv' : IV} {l : List Tab} {P : Nat → Nat → Prop} (h : mTb iv l) (hF : Fr iv iv' P) (h0 : ¬ P 0 6) (h1 : ∀ lb j, 8 ≤ lb → lb ≤ 15 → ¬ P lb j) (h2 : ∀ lb j, 23 ≤ lb → lb ≤ 28 → ¬ P lb j) : mTb iv' l := by
  refine ⟨(hF 0 6 h0).trans h.1, h.2.1, fun T hT => ?_, fun T hT hT2 => ?_⟩
  · have := h.2.2.1 T hT
    exact ⟨this.1.fr2 hF h1, this.2.1, this.2.2.fr this.1.2.1 hF (h2 _ _ (by decide) (by decide)) (h2 _ _ (by decide) (by decide)) (h2 _ _ (by decide) (by decide)) (fun lb j h _ _ => h2 lb j (by omega) (by omega))⟩
  · have := h.2.2.2 T hT hT2
    exact ⟨(hF 23 T (h2 _ _ (by decide) (by decide))).trans this.1, (hF 24 T (h2 _ _ (by decide) (by decide))).trans this.2.1, (hF 27 T (h2 _ _ (by decide) (by decide))).trans this.2.2⟩
theorem PRG.fr {iv iv' : IV} {P : Nat} {g : Prg} {tab : Tab} {Q : Nat → Nat → Prop} (h : PRG iv P g) (hF : Fr iv iv' Q) (hg : prgOK tab g) (h17 : ¬ Q 17 P) (h18 : ∀ lb j, lb = 18 ∨ lb = 19 → 41 * P ≤ j → j < 41 * P + 41 → ¬ Q lb j) (h20 : ∀ lb j, lb = 20 ∨ lb = 21 → 200 * P ≤ j → j < 200 * P + 200 → ¬ Q lb j) : PRG iv' P g := by
  have e1 := hg.2.1.1
  have e2 := hg.2.2.2
  exact ⟨(hF 17 P h17).trans h.1, h.2.1.fr hF (fun lb j h1 h2 h3 => h20 lb j h1 h2 (by omega)), h.2.2.1.fr hF (fun lb j h1 h2 h3 => h18 lb j h1 h2 (by omega)), (hF 19 _ (h18 19 _ (by decide) (by omega) (by omega))).trans h.2.2.2.1, (hF 18 _ (h18 18 _ (by decide) (by omega) (by omega))).trans h.2.2.2.2⟩
theorem mPg.fr {iv iv' : IV} {l : List Tab} {p : List (Nat × Prg)} {Q : Nat → Nat → Prop} (h : mPg iv l p) (hF : Fr iv iv' Q) (h0 : ¬ Q 0 7) (h1 : ∀ lb j, 16 ≤ lb → lb ≤ 21 → ¬ Q lb j) : mPg iv' l p := by
  refine ⟨(hF 0 7 h0).trans h.1, h.2.1, fun P hP => ?_⟩
  have := h.2.2 P hP
  exact ⟨(hF 16 P (h1 _ _ (by decide) (by decide))).trans this.1, this.2.1, this.2.2.1.fr hF this.2.2.2 (h1 _ _ (by decide) (by decide)) (fun lb j h _ _ => h1 lb j (by omega) (by omega)) (fun lb j h _ _ => h1 lb j (by omega) (by omega)), this.2.2.2⟩
theorem mOu.fr {iv iv' : IV} {o : List Nat} {P : Nat → Nat → Prop} (h : mOu iv o) (hF : Fr iv iv' P) (h0 : ¬ P 0 4) (h1 : ∀ k, ¬ P 2 k) : mOu iv' o :=
  ⟨(hF 0 4 h0).trans h.1, h.2.1, fun k hk hk2 => ⟨(hF 2 k (h1 k)).trans (h.2.2 k hk hk2).1, (h.2.2 k hk hk2).2⟩⟩
/-- the code of a throw is no part of the state -/
theorem MSt.c0 {iv : IV} {a : AS} {v : Int32} (h : MSt iv a) : MSt (up2 iv 0 0 v) a := by
  have hF : Fr iv (up2 iv 0 0 v) (fun lb j => lb = 0 ∧ j = 0) := Fr.up Fr.rf ⟨rfl, rfl⟩
  exact ⟨h.1.fr hF (by decide) (fun k => by simp), (hF 0 5 (by decide)).trans h.2.1, h.2.2.1.fr hF (by decide) (fun lb j _ _ => by omega) (fun lb j _ _ => by omega), h.2.2.2.1.fr hF (by decide) (fun lb j _ _ => by omega), h.2.2.2.2.fr hF (by decide) (fun k => by simp)⟩
theorem MSt.lay {iv iv' : IV} {a : AS} {T : Nat} (h : MSt iv a) (hT : T < (aT a).length) (hF : Fr iv iv' (pLY T)) (hL : LY iv' T (aTb a T)) (h23 : iv' 23 T = bI true) : MSt iv' a := by
  refine ⟨h.1.fr hF (by simp) (fun k => by simp), (hF 0 5 (by simp)).trans h.2.1, ⟨(hF 0 6 (by simp)).trans h.2.2.1.1, h.2.2.1.2.1, fun S hS => ?_, fun S hS hS2 => ?_⟩, h.2.2.2.1.fr hF (by simp) (fun lb j _ _ => by simp only [pLY]; omega), h.2.2.2.2.fr hF (by simp) (fun k => by simp)⟩
  · have hh := h.2.2.1.2.2.1 S hS
    refine ⟨hh.1.fr2 hF (fun lb j _ _ => by simp only [pLY]; omega), hh.2.1, ?_⟩
    by_cases hST : S = T
    · subst hST
      exact ⟨true, h23, fun _ => hL, fun h => by cases h⟩
    · exact hh.2.2.fr hh.1.2.1 hF (by simp only [pLY]; omega) (by simp only [pLY]; omega) (by simp only [pLY]; omega) (fun lb j h1 h2 h3 => by simp only [pLY]; omega)
  · have hh := h.2.2.1.2.2.2 S hS hS2
    exact ⟨(hF 23 S (by simp only [pLY]; omega)).trans hh.1, (hF 24 S (by simp only [pLY]; omega)).trans hh.2.1, (hF 27 S (by simp only [pLY]; omega)).trans hh.2.2⟩
theorem up0_M {iv : IV} {v : Int32} {k : Nat} : Fr iv (up2 iv 0 k v) pM := Fr.up Fr.rf (by simp)
theorem qRow_pre {tab : Tab} {a b : Nat} : ∀ k, ∃ r, qRow tab a (b + k) = qRow tab a b ++ r
  | 0 => ⟨[], by simp⟩
  | k + 1 => by
    obtain ⟨r, hr⟩ := qRow_pre (tab := tab) (a := a) (b := b) k
    exact ⟨r ++ (if a < b + k then (match qAt tab a (b + k) with | none => [] | some c => [(a, b + k, c)]) else []), by rw [← Nat.add_assoc, qRow, hr, List.append_assoc]⟩
theorem qUp_pre {tab : Tab} {a : Nat} : ∀ k, ∃ r, qUp tab (a + k) = qUp tab a ++ r
  | 0 => ⟨[], by simp⟩
  | k + 1 => by
    obtain ⟨r, hr⟩ := qUp_pre (tab := tab) (a := a) k
    exact ⟨r ++ qRow tab (a + k) (tR tab), by rw [← Nat.add_assoc, qUp, hr, List.append_assoc]⟩
theorem qL_pre {tab : Tab} {a b : Nat} (ha : a < tR tab) (hb : b ≤ tR tab) : ∃ r, qL tab = (qUp tab a ++ qRow tab a b) ++ r := by
  obtain ⟨r1, h1⟩ := qUp_pre (tab := tab) (a := a + 1) (tR tab - (a + 1))
  obtain ⟨r2, h2⟩ := qRow_pre (tab := tab) (a := a) (b := b) (tR tab - b)
  rw [show a + 1 + (tR tab - (a + 1)) = tR tab by omega] at h1
  rw [show b + (tR tab - b) = tR tab by omega] at h2
  exact ⟨r2 ++ r1, by rw [qL, h1, qUp, h2]; simp⟩
theorem qRow_s {tab : Tab} {a b c : Nat} (h : a < b) (hq : qAt tab a b = some c) : qRow tab a (b + 1) = qRow tab a b ++ [(a, b, c)] := by rw [qRow, if_pos h, hq]
theorem qRow_n {tab : Tab} {a b : Nat} (h : a < b) (hq : qAt tab a b = none) : qRow tab a (b + 1) = qRow tab a b := by rw [qRow, if_pos h, hq]; simp
theorem qRow_0 {tab : Tab} {a : Nat} : ∀ b, b ≤ a + 1 → qRow tab a b = []
  | 0, _ => rfl
  | b + 1, h => by rw [qRow, qRow_0 b (by omega), if_neg (by omega)]; rfl
theorem qRow_len {tab : Tab} {a : Nat} : ∀ b, (qRow tab a b).length ≤ b
  | 0 => Nat.le_refl 0
  | b + 1 => by
    have := qRow_len (tab := tab) (a := a) b
    rw [qRow, List.length_append]
    split
    · split
      · simp; omega
      · simp; omega
    · simp; omega
theorem qUp_len {tab : Tab} : ∀ a, (qUp tab a).length ≤ a * tR tab
  | 0 => Nat.zero_le _
  | a + 1 => by
    have h1 := qUp_len (tab := tab) a
    have h2 := qRow_len (tab := tab) (a := a) (tR tab)
    rw [qUp, List.length_append, Nat.succ_mul]
    omega
theorem qL_len {tab : Tab} (hk : tabOK tab) : (qL tab).length ≤ 1600 := by
  have h1 := qUp_len (tab := tab) (tR tab)
  have h2 := hk.2.2.2.2.2.2.1
  have h3 := Nat.mul_le_mul h2 h2
  unfold qL; omega
theorem nHo_le {tab : Tab} (hk : tabOK tab) : nHo tab ≤ 400 := Nat.le_trans (cntN_le _) hk.2.2.2.1
section LW
variable {p : Program} {l : Launch} {e : Env} {R : Room} {s : State} {m : MethodId} {args : Array Value} {below : List Frame} {meth : Method} {c : Code} {H : Heap} {locs : List Loc} {cells slots : Nat} {Q : State → Prop}
variable {cc : ByteArray} {pc : Nat} {ls : Array Slot} {rest : List Value} {D : va_G} {cy : Nat → ClassId} {G : GW} {A : Nat → Prop} {H0 : Heap} {iv : IV} {jv : JV} {own : String} {lb ci k idx : Nat} {z : ZK}
theorem st_ldcw {T : State} (X : Stand p l e R s m args below meth c T locs cells slots) (hexec : p.tables.exec = Jvm.exec) {own text : String} {index : Nat} {a : Addr} (hown : s.vm.findClass own = some m.cls)
    (hconst : (Cond.stringRef own index text).before args s = true) (hev : (Term.string own index).eval args s none [] s = some (.ref a)) {g : JFrame} (hg : g.method = m) (hdg : decode c.code g.pc = .ok (.ldc_w index, 3)) :
    ∀ target, Steps p.tables e below (T.setTop { g with pc := g.pc + 3, stack := .ref a :: g.stack }) target → Steps p.tables e below (T.setTop g) target := by
  obtain ⟨k, cf, i, a', hk, hcf, hcp, -, hr, hev'⟩ := Cond.stringRef_spec hown hconst
  cases hev.symm.trans hev'
  obtain ⟨k', hk', he⟩ := X.warmed.alike.2.2 _ _ hk
  have hr' : k'.resolved[index]? = some (some (.string a)) := by
    rcases X.warmed.entry hk hk' index with h | ⟨h, -⟩
    · rw [h]; exact hr
    · rw [hr] at h; cases h
  intro target hrest
  subst hg
  jvm_step X.here [hexec, hdg, ldc_w.wp_string (e := e) (s := T) (f := g) X.here.top hk' (by rw [he]; exact hcf) hcp hr']
  exact hrest
theorem rs_ldcw {i : Nat} (hE : EN p c s m args cc own D cy z A) (hi : i < 30) (ho : (sT.getD i ("", 0, "")).1 = own) (hx : (sT.getD i ("", 0, "")).2.1 = idx) (hd : decode cc pc = .ok (.ldc_w idx, 3))
    (kk : W p l e R s m args below meth c H locs cells slots Q (F0 m (pc + 3) ls (.ref (z.1 i) :: rest))) : W p l e R s m args below meth c H locs cells slots Q (F0 m pc ls rest) := by
  subst ho; subst hx
  have hZ := hE.2.2.2.2.2.2.1 i hi
  intro T hT X
  obtain ⟨t, a1, b1⟩ := kk T hT X
  exact ⟨t, st_ldcw X hE.1 hE.2.2.1 hZ.1 hZ.2 (g := F0 m pc ls rest) rfl (by rw [hE.2.1]; exact hd) t a1, b1⟩
theorem rg_min {x y nL0 : Nat} (hE : EN p c s m args cc own D cy z A) (hml : c.maxLocals = nL0) (hsz : ls.size = nL0) (hw : MS own idx yJ9_min_7cf53 cJ9_min_7cf53 2 (some .int) 2) (hR : 1 ≤ R.frames ∧ 21 ≤ R.locals) (hf : cells ≤ R.cells ∧ slots ≤ R.slots) (hr8 : (rest.map fun v => v.category).sum ≤ 8) (hx : x < 2147483648) (hy : y < 2147483648) (hd : decode cc pc = .ok (.invokestatic idx, 3))
    (kk : W p l e R s m args below meth c H locs cells slots Q (F0 m (pc + 3) ls (.int (nI (min x y)) :: rest))) : W p l e R s m args below meth c H locs cells slots Q (F0 m pc ls (.int (nI y) :: .int (nI x) :: rest)) := by
  obtain ⟨w1, w2, w4, w5, -, -, -⟩ := hw
  have hts := hE.2.2.2.1
  refine va_mmin hE.1 hE.2.1 (hml.trans hsz.symm) hE.2.2.1 (hts _ w1) (hts _ w2) (hts _ w4) (hts _ w5) hR.1 (by omega) hf.1 hf.2 hd ?_
  have e : (if nI y < nI x then nI y else nI x) = nI (min x y) := by
    by_cases h : y < x
    · rw [if_pos (nI_lt h hx), Nat.min_def, if_neg (by omega)]
    · rw [if_neg (nI_nlt (by omega) hy), Nat.min_def, if_pos (by omega)]
  rw [e]; exact kk
theorem rg_max {x y nL0 : Nat} (hE : EN p c s m args cc own D cy z A) (hml : c.maxLocals = nL0) (hsz : ls.size = nL0) (hw : MS own idx yJ9_max_7cf53 cJ9_max_7cf53 2 (some .int) 2) (hR : 1 ≤ R.frames ∧ 21 ≤ R.locals) (hf : cells ≤ R.cells ∧ slots ≤ R.slots) (hr8 : (rest.map fun v => v.category).sum ≤ 8) (hx : x < 2147483648) (hy : y < 2147483648) (hd : decode cc pc = .ok (.invokestatic idx, 3))
    (kk : W p l e R s m args below meth c H locs cells slots Q (F0 m (pc + 3) ls (.int (nI (max x y)) :: rest))) : W p l e R s m args below meth c H locs cells slots Q (F0 m pc ls (.int (nI y) :: .int (nI x) :: rest)) := by
  obtain ⟨w1, w2, w4, w5, -, -, -⟩ := hw
  have hts := hE.2.2.2.1
  refine va_mmax hE.1 hE.2.1 (hml.trans hsz.symm) hE.2.2.1 (hts _ w1) (hts _ w2) (hts _ w4) (hts _ w5) hR.1 (by omega) hf.1 hf.2 hd ?_
  have e : (if nI x < nI y then nI y else nI x) = nI (max x y) := by
    by_cases h : x < y
    · rw [if_pos (nI_lt h hy), Nat.max_def, if_pos (by omega)]
    · rw [if_neg (nI_nlt (by omega) hx), Nat.max_def]
      by_cases h2 : x ≤ y
      · rw [if_pos h2, show x = y by omega]
      · rw [if_neg h2]
  rw [e]; exact kk
end LW
theorem qAt_lt {tab : Tab} {a b c : Nat} (h : qAt tab a b = some c) : c < tC tab := by
  unfold qAt at h
  split at h
  · cases h
  · exact (fnd_lt h).1
theorem cntN_up {p : Nat → Bool} {j : Nat} : ∀ k, cntN p j ≤ cntN p (j + k)
  | 0 => Nat.le_refl _
  | k + 1 => by
    have := cntN_up (p := p) (j := j) k
    rw [← Nat.add_assoc, cntN]; omega
theorem nthH_eq {tab : Tab} {c i : Nat} (hc : c < tC tab) (h1 : frow tab c = none) (h2 : cntN (fun c => (frow tab c).isNone) c = i) : nthH tab i = some c := by
  refine fnd_some hc (by simp [h1, h2]) (fun j hj => ?_)
  cases hb : ((frow tab j).isNone && decide (cntN (fun c => (frow tab c).isNone) j = i)) with
  | false => rfl
  | true =>
    exfalso
    rw [Bool.and_eq_true, decide_eq_true_eq] at hb
    have e1 : cntN (fun c => (frow tab c).isNone) (j + 1) = i + 1 := by rw [cntN, if_pos hb.1, hb.2]
    have e2 := cntN_up (p := fun c => (frow tab c).isNone) (j := j + 1) (c - (j + 1))
    rw [show j + 1 + (c - (j + 1)) = c by omega] at e2
    omega
theorem oI_som {o : Option Nat} (h : ¬ oI o = -1) : ∃ q, o = some q := by
  cases o with
  | none => exact absurd rfl h
  | some q => exact ⟨q, rfl⟩
