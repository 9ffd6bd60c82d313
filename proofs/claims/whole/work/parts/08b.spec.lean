/-! ===== the class holds the state ===== -/
def bL (k : Nat) : Nat := 10000 + 1000 * k
def tL (k : Nat) : Nat := 10000 + 1000 * k + 100
def wL (k : Nat) : Nat := 20000 + 1000 * k
def gL (k : Nat) : Nat := 20000 + 1000 * k + 100
/-- the kinds of all labels -/
def kdF (lb : Nat) : Nat := if lb = 50 then 14 else if lb < 111 then kd0 lb else if lb < 20000 then (if lb % 1000 < 100 then kLa (lb % 1000) else kTb (lb % 1000 - 100)) else (if lb % 1000 < 100 then kWh (lb % 1000) else if lb % 1000 = 100 then 5 else 13)
theorem kdF_0 {i : Nat} (h : i < 111) (h5 : i ≠ 50) : kdF i = kd0 i := by unfold kdF; rw [if_neg h5, if_pos h]
theorem kdF_L {k i : Nat} (hk : k < 9) (h : i < 33) : kdF (10000 + 1000 * k + i) = kLa i := by
  unfold kdF
  rw [if_neg (by omega), if_neg (by omega), if_pos (by omega), show (10000 + 1000 * k + i) % 1000 = i by omega, if_pos (by omega)]
theorem kdF_T {k i : Nat} (hk : k < 9) (h : i < 44) : kdF (10000 + 1000 * k + 100 + i) = kTb i := by
  unfold kdF
  rw [if_neg (by omega), if_neg (by omega), if_pos (by omega), show (10000 + 1000 * k + 100 + i) % 1000 = 100 + i by omega, if_neg (by omega), Nat.add_sub_cancel_left]
theorem kdF_W {k i : Nat} (h : i < 4) : kdF (20000 + 1000 * k + i) = kWh i := by
  unfold kdF
  rw [if_neg (by omega), if_neg (by omega), if_neg (by omega), show (20000 + 1000 * k + i) % 1000 = i by omega, if_pos (by omega)]
theorem kdF_P {k : Nat} : kdF (20000 + 1000 * k + 100) = 5 ∧ kdF (20000 + 1000 * k + 100 + 1) = 13 := by
  unfold kdF
  constructor
  · rw [if_neg (by omega), if_neg (by omega), if_neg (by omega), show (20000 + 1000 * k + 100) % 1000 = 100 by omega]; rfl
  · rw [if_neg (by omega), if_neg (by omega), if_neg (by omega), show (20000 + 1000 * k + 100 + 1) % 1000 = 101 by omega]; rfl
def cTb (G : GW) (iv : IV) (jv : JV) (k : Nat) (tab : Tab) : Prop := G.rv 107 k = some (tL k) ∧ isTb G (tL k) (bL k) (tm tab) (tC tab) (tR tab) (tT tab) ∧ LAY iv jv (bL k) tab ∧ TBd iv (tL k) tab ∧ tabOK tab ∧ tabW tab
def cPg (G : GW) (iv : IV) (l : List Tab) (j : Nat) (x : Nat × Prg) : Prop := G.rv 108 j = some (gL j) ∧ x.1 < l.length ∧ isPg G (gL j) (tL x.1) (tC (l.getD x.1 dT0)) ∧ prgOK (l.getD x.1 dT0) x.2 ∧ ∀ d, d < tC (l.getD x.1 dT0) → iv (gL j + 1) d = nI (pAns (l.getD x.1 dT0) x.2 d)
def cTp (iv : IV) (n : Nat) (Y : Nat → Nat) : Prop := iv 100 1 = nI n ∧ n ≤ 1000 ∧ (∀ k, k < n → iv 101 k = sbI (Y k)) ∧ ∀ k, k < n → Y k < 256
def cBd (G : GW) (T P : Nat) : Prop := (∀ lb ∈ G.L, lb < 1000 ∨ (10000 ≤ lb ∧ lb < bL T + 100) ∨ (20000 ≤ lb ∧ lb < wL P + 100)) ∧ G.kd = kdF
def CSt (G : GW) (iv : IV) (jv : JV) (a : AS) : Prop := isX0 G ∧ (isLa G (bL (aT a).length) ∧ isWh G 20000 ∧ G.rv 100 7 = some (bL (aT a).length) ∧ G.rv 100 8 = some 20000) ∧ cTp iv (aN a) (aY a) ∧ iv 100 9 = aF a ∧ (iv 100 4 = nI (aT a).length ∧ (aT a).length ≤ 6 ∧ ∀ k, k < (aT a).length → cTb G iv jv k (aTb a k)) ∧ (iv 100 6 = nI (aP a).length ∧ (aP a).length ≤ 12 ∧ ∀ j, j < (aP a).length → cPg G iv (aT a) j (aPg a j)) ∧ cOu iv (aO a) ∧ cBd G (aT a).length (aP a).length
