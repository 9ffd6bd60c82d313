/-! ===== what a TABLE means ===== -/
def tm (tab : Tab) : Nat := tab.1.length
def tf (tab : Tab) : Nat → Nat := fun i => (szs tab.1).getD i 0
def tC (tab : Tab) : Nat := prd (tf tab) (tm tab)
def tR (tab : Tab) : Nat := tab.2.2.length
def tO (tab : Tab) : Nat := tab.2.1.length
def tce (tab : Tab) (r : Nat) : Nat → Nat := fun i => (tab.2.2.getD r dR0).1.getD i 0
def tvv (tab : Tab) (r : Nat) : Nat := (tab.2.2.getD r dR0).2
def tabOK (tab : Tab) : Prop := 1 ≤ tm tab ∧ tm tab ≤ 5 ∧ (∀ i, i < tm tab → 2 ≤ tf tab i ∧ tf tab i ≤ 6) ∧ tC tab ≤ 400 ∧ 2 ≤ tO tab ∧ tO tab ≤ 6 ∧ tR tab ≤ 40 ∧ ∀ r, r < tR tab → (∀ i, tce tab r i < 64) ∧ tvv tab r < tO tab
/-- VALUES of a CASE -/
def dq (f : Nat → Nat) (i : Nat) : Nat → Nat → Nat
  | 0, v => v
  | k + 1, v => if i < k then dq f i k (v / f k) else v
def vOf (f : Nat → Nat) (m c i : Nat) : Nat := dq f i m c % f i
theorem dq_le {f : Nat → Nat} {i : Nat} : ∀ k v, dq f i k v ≤ v
  | 0, v => Nat.le_refl v
  | k + 1, v => by
    unfold dq
    split
    · exact Nat.le_trans (dq_le k _) (Nat.div_le_self _ _)
    · exact Nat.le_refl v
def ftI (ce f : Nat → Nat) (m c : Nat) : Nat → Bool
  | 0 => true
  | i + 1 => ftI ce f m c i && (ce i).testBit (vOf f m c i)
theorem ftI_f {ce f : Nat → Nat} {m c i : Nat} (h : ftI ce f m c i = false) : ∀ k, ftI ce f m c (i + k) = false
  | 0 => h
  | k + 1 => by rw [← Nat.add_assoc, ftI, ftI_f h k]; rfl
theorem ftI_le {ce f : Nat → Nat} {m c i j : Nat} (h : ftI ce f m c i = false) (hij : i ≤ j) : ftI ce f m c j = false := by
  have := ftI_f h (j - i)
  rwa [show i + (j - i) = j by omega] at this
def fnd (p : Nat → Bool) (n : Nat) : Option Nat := (List.range n).find? p
theorem fnd_some {p : Nat → Bool} {n k : Nat} (hk : k < n) (hp : p k = true) (h : ∀ j, j < k → p j = false) : fnd p n = some k := by
  unfold fnd
  rw [List.find?_range_eq_some]
  exact ⟨hp, List.mem_range.mpr hk, fun j hj => by rw [h j hj]; rfl⟩
theorem fnd_none {p : Nat → Bool} {n : Nat} (h : ∀ j, j < n → p j = false) : fnd p n = none := by
  unfold fnd
  rw [List.find?_eq_none]
  intro x hx
  rw [h x (List.mem_range.mp hx)]; simp
theorem fnd_lt {p : Nat → Bool} {n k : Nat} (h : fnd p n = some k) : k < n ∧ p k = true ∧ ∀ j, j < k → p j = false := by
  unfold fnd at h
  rw [List.find?_range_eq_some] at h
  obtain ⟨h1, h2, h3⟩ := h
  exact ⟨List.mem_range.mp h2, h1, fun j hj => by have := h3 j hj; simpa using this⟩
def cntN (p : Nat → Bool) : Nat → Nat
  | 0 => 0
  | k + 1 => cntN p k + (if p k then 1 else 0)
theorem cntN_le {p : Nat → Bool} : ∀ n, cntN p n ≤ n
  | 0 => Nat.le_refl 0
  | n + 1 => by
    have := cntN_le (p := p) n
    unfold cntN
    split <;> omega
def fit (tab : Tab) (r c : Nat) : Bool := ftI (tce tab r) (tf tab) (tm tab) c (tm tab)
def frow (tab : Tab) (c : Nat) : Option Nat := fnd (fun r => fit tab r c) (tR tab)
def frowX (tab : Tab) (c x : Nat) : Option Nat := fnd (fun r => decide (r ≠ x) && fit tab r c) (tR tab)
def ans (tab : Tab) (c : Nat) : Option Nat := (frow tab c).map (tvv tab)
def idl (tab : Tab) (r : Nat) : Bool := decide (∀ c, c < tC tab → frow tab c = some r → (frowX tab c r).map (tvv tab) = some (tvv tab r))
def qAt (tab : Tab) (a b : Nat) : Option Nat := if tvv tab a = tvv tab b then none else fnd (fun c => fit tab a c && fit tab b c) (tC tab)
/-- what the reference knows of a finished TABLE -/
def FT (iv : IV) (T : Nat) (tab : Tab) : Prop := TABL iv T tab ∧ tabOK tab ∧ ∀ c, c < tC tab → iv 15 (400 * T + c) = oI (frow tab c)
theorem TABL.f {iv : IV} {T : Nat} {tab : Tab} (h : TABL iv T tab) : iv 8 T = nI (tm tab) ∧ (∀ i, i < tm tab → iv 10 (6 * T + i) = nI (tf tab i)) ∧ iv 9 T = nI (tR tab) ∧ (∀ r i, r < tR tab → i < tm tab → iv 13 (5 * (40 * T + r) + i) = nI (tce tab r i)) ∧ (∀ r, r < tR tab → iv 14 (40 * T + r) = nI (tvv tab r)) ∧ iv 10 (6 * T + 5) = nI (tO tab) :=
  ⟨h.1.1, fun i hi => by unfold tf; rw [szs_get]; exact (h.1.2.2.1 i hi).2.1, h.2.2.2.1, fun r i hr hi => (h.2.2.2.2.2 r hr).1 i hi, fun r hr => (h.2.2.2.2.2 r hr).2, h.2.2.1.1⟩
theorem vOf_lt {tab : Tab} (hk : tabOK tab) {c i : Nat} (hi : i < tm tab) : vOf (tf tab) (tm tab) c i < 6 := by
  have h := (hk.2.2.1 i hi)
  exact Nat.lt_of_lt_of_le (Nat.mod_lt _ (by omega)) h.2
theorem frow_lt {tab : Tab} {c r : Nat} (h : frow tab c = some r) : r < tR tab := (fnd_lt h).1
