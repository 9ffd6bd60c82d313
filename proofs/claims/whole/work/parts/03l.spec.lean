/-! TERMS -/
def tT (tab : Tab) : Nat := prd (fun i => tf tab i + 1) (tm tab)
def tAt (tab : Tab) (t i : Nat) : Option Nat := if vOf (fun i => tf tab i + 1) (tm tab) t i = tf tab i then none else some (vOf (fun i => tf tab i + 1) (tm tab) t i)
def tld (tab : Tab) (t : Nat) : Nat := cntN (fun i => (tAt tab t i).isSome) (tm tab)
def hld (tab : Tab) (t c : Nat) : Bool := decide (∀ i, i < tm tab → tAt tab t i = none ∨ tAt tab t i = some (vOf (tf tab) (tm tab) c i))
theorem tAt_lt {tab : Tab} (hk : tabOK tab) {t i v : Nat} (hi : i < tm tab) (h : tAt tab t i = some v) : v < tf tab i := by
  unfold tAt at h
  split at h
  · cases h
  · rename_i h1
    cases h
    have h2 : vOf (fun i => tf tab i + 1) (tm tab) t i < tf tab i + 1 := Nat.mod_lt _ (Nat.succ_pos _)
    omega
/-- of which VALUE a TERM is, the CASES below c counted: 6 none yet, NONE more than one -/
def toI (tab : Tab) (t : Nat) : Nat → Int32
  | 0 => nI 6
  | c + 1 => match ans tab c with
    | none => toI tab t c
    | some v => if hld tab t c = true then (if toI tab t c = nI 6 ∨ toI tab t c = nI v then nI v else -1) else toI tab t c
theorem ans_lt {tab : Tab} (hk : tabOK tab) {c v : Nat} (h : ans tab c = some v) : v < tO tab := by
  unfold ans at h
  cases hr : frow tab c with
  | none => rw [hr] at h; cases h
  | some r =>
    rw [hr] at h
    cases h
    exact (hk.2.2.2.2.2.2.2 r (frow_lt hr)).2
/-- how many of the CASES that are wanted and not held yet a TERM holds for -/
def gn (tab : Tab) (want : Option Nat) (held : Nat → Bool) (t : Nat) : Nat := cntN (fun c => decide (ans tab c = want) && !held c && hld tab t c) (tC tab)
def wnt (of : Nat) : Option Nat := if of = 6 then none else some of
/-- the best TERM below t: it, its gain, how many INPUTS it tells -/
def bsI (tab : Tab) (of : Nat) (held : Nat → Bool) : Nat → Option Nat × Nat × Nat
  | 0 => (none, 0, 0)
  | t + 1 => if toI tab t (tC tab) = nI of ∧ ¬ (gn tab (wnt of) held t < (bsI tab of held t).2.1 ∨ gn tab (wnt of) held t = 0 ∨ (gn tab (wnt of) held t = (bsI tab of held t).2.1 ∧ (bsI tab of held t).2.2 ≤ tld tab t)) then (some t, gn tab (wnt of) held t, tld tab t) else bsI tab of held t
def bst (tab : Tab) (of : Nat) (held : Nat → Bool) : Option Nat := (bsI tab of held (tT tab)).1
def hup (tab : Tab) (t : Nat) (held : Nat → Bool) : Nat → Bool := fun c => held c || hld tab t c
/-- TERMS taken one behind the other -/
def tka (tab : Tab) (of : Nat) : Nat → (Nat → Bool) → List Nat
  | 0, _ => []
  | f + 1, held => match bst tab of held with
    | none => []
    | some t => t :: tka tab of f (hup tab t held)
def ruleV (tab : Tab) (v : Nat) : List Nat := tka tab v 400 (fun _ => false)
def ruleU (tab : Tab) : Nat → List (Nat × Nat)
  | 0 => []
  | v + 1 => ruleU tab v ++ (ruleV tab v).map (fun t => (t, v))
def rule (tab : Tab) : List (Nat × Nat) := ruleU tab (tO tab)
def offers (tab : Tab) : List Nat := tka tab 6 400 (fun _ => false)
