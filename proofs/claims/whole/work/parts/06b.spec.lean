def isA (G : GW) (lb k n : Nat) : Prop := lb ∈ G.L ∧ G.kd lb = k ∧ G.ln lb = n
def isCa (G : GW) (t m C : Nat) : Prop := isA G (t + 1) 19 m ∧ ∀ i, i < m → isA G (t + 2 + i) 13 C ∧ G.rv (t + 1) i = some (t + 2 + i)
def isTm (G : GW) (u m C K : Nat) : Prop := (u ∈ G.L ∧ G.kd u = 8) ∧ isA G (u + 1) 13 m ∧ isA G (u + 2) 13 m ∧ isA G (u + 3) 19 m ∧ (∀ i, i < m → isA G (u + 4 + i) 13 K ∧ G.rv (u + 3) i = some (u + 4 + i)) ∧ isA G (u + 10) 13 K ∧ isA G (u + 11) 13 K ∧ isA G (u + 12) 13 K ∧ isA G (u + 13) 13 K ∧ isA G (u + 14) 15 C ∧ G.rv u 0 = some (u + 1) ∧ G.rv u 1 = some (u + 2) ∧ G.rv u 3 = some (u + 3) ∧ G.rv u 4 = some (u + 10) ∧ G.rv u 5 = some (u + 11) ∧ G.rv u 6 = some (u + 12) ∧ G.rv u 7 = some (u + 13) ∧ G.rv u 8 = some (u + 14)
def isTb (G : GW) (t b m C R K : Nat) : Prop := (t ∈ G.L ∧ G.kd t = 7) ∧ isLa G b ∧ isCa G t m C ∧ isA G (t + 10) 13 C ∧ isA G (t + 11) 13 C ∧ isA G (t + 12) 13 C ∧ isA G (t + 13) 13 C ∧ isA G (t + 14) 13 (R * (R - 1) / 2) ∧ isA G (t + 15) 13 (R * (R - 1) / 2) ∧ isA G (t + 16) 15 R ∧ isA G (t + 17) 13 C ∧ isTm G (t + 20) m C K ∧ G.rv t 0 = some b ∧ G.rv t 2 = some (t + 1) ∧ G.rv t 3 = some (t + 10) ∧ G.rv t 4 = some (t + 11) ∧ G.rv t 5 = some (t + 12) ∧ G.rv t 6 = some (t + 13) ∧ G.rv t 8 = some (t + 14) ∧ G.rv t 9 = some (t + 15) ∧ G.rv t 11 = some (t + 16) ∧ G.rv t 13 = some (t + 20) ∧ G.rv t 14 = some (t + 17)
def CVl (iv : IV) (t : Nat) (tab : Tab) : Prop := ∀ i, i < tm tab → ∀ c, c < tC tab → iv (t + 2 + i) c = nI (vOf (tf tab) (tm tab) c i)
theorem CVl.fr {iv iv' : IV} {t : Nat} {tab : Tab} {P : Nat → Nat → Prop} (h : CVl iv t tab) (hF : Fr iv iv' P) (h1 : ∀ i, i < tm tab → ∀ c, ¬ P (t + 2 + i) c) : CVl iv' t tab := fun i hi c hc => (hF _ _ (h1 i hi c)).trans (h i hi c hc)
/-- the first from a place on -/
def fnF (p : Nat → Bool) (a n : Nat) : Option Nat := fnd (fun k => decide (a ≤ k) && p k) n
theorem fnF_some {p : Nat → Bool} {a n k : Nat} (hk : k < n) (ha : a ≤ k) (hp : p k = true) (h : ∀ j, a ≤ j → j < k → p j = false) : fnF p a n = some k :=
  fnd_some hk (by simp [ha, hp]) (fun j hj => by
    by_cases haj : a ≤ j
    · rw [h j haj hj, Bool.and_false]
    · simp [haj])
theorem fnF_none {p : Nat → Bool} {a n : Nat} (h : ∀ j, a ≤ j → j < n → p j = false) : fnF p a n = none :=
  fnd_none (fun j hj => by
    by_cases haj : a ≤ j
    · rw [h j haj hj, Bool.and_false]
    · simp [haj])
theorem fnF_0 {p : Nat → Bool} {n : Nat} : fnF p 0 n = fnd p n := by
  have e : (fun k => decide (0 ≤ k) && p k) = p := by funext k; simp
  unfold fnF
  rw [e]
/-- the masks of ROWS in the class, for a CASE's VALUES v -/
def msk (iv : IV) (r m : Nat) (v : Nat → Nat) (k : Nat) (p : Nat → Bool) : Prop := ∀ i, i < m → ∃ a, iv (r + 1) (k * 5 + i) = nI a ∧ a < 64 ∧ a.testBit (v i) = p i
theorem LAY.msk {iv : IV} {jv : JV} {b : Nat} {tab : Tab} (h : LAY iv jv b tab) (hk : tabOK tab) {c k : Nat} (hkr : k < tR tab) : msk iv (b + 30) (tm tab) (vOf (tf tab) (tm tab) c) k (fun i => (tce tab k i).testBit (vOf (tf tab) (tm tab) c i)) := fun i hi => by
  obtain ⟨a, h1, h2⟩ := (h.2.2.2.2 k hkr).1 i hi
  refine ⟨a, h1, h2.1, h2.2 _ ?_⟩
  have := hk.2.2.1 i hi
  exact Nat.mod_lt _ (by omega)
theorem LAY.fr {iv iv' : IV} {jv : JV} {b : Nat} {tab : Tab} {P : Nat → Nat → Prop} (h : LAY iv jv b tab) (hF : Fr iv iv' P) (hP : ∀ lb j, b ≤ lb → lb < b + 40 → ¬ P lb j) : LAY iv' jv b tab :=
  ⟨h.1.fr hF (Q := fun _ _ => False) FrJ.rf (fun j => hP _ _ (by omega) (by omega)) (fun i hi => ⟨fun j => hP _ _ (by omega) (by have := h.1.2.2.1; omega), fun j h => h, fun j h => h⟩), h.2.1.fr (Q := fun _ _ => False) hF FrJ.rf (hP _ _ (by omega) (by omega)) (fun v h => h), h.2.2.fr h.1.2.2.1 hF (hP _ _ (by omega) (by omega)) (fun j _ => hP _ _ (by omega) (by omega)) (fun j _ => hP _ _ (by omega) (by omega))⟩
theorem cntN_one {p : Nat → Bool} {k : Nat} (h : p k = true) (hn : ∀ j, j < k → p j = false) : cntN p (k + 1) = 1 := by rw [cntN, cntN_zero hn, if_pos h]
/-! the first CASE of two ROWS -/
def cbN (tab : Tab) (x : Nat → Nat) : Nat → Nat
  | 0 => 0
  | i + 1 => cbN tab x i * tf tab i + x i
theorem cbN_lt {tab : Tab} {x : Nat → Nat} : ∀ m, (∀ i, i < m → x i < tf tab i) → cbN tab x m < prd (tf tab) m
  | 0, _ => Nat.one_pos
  | m + 1, h => by
    have ih := cbN_lt m (fun i hi => h i (by omega))
    have hm := h m (by omega)
    rw [cbN, prd]
    have h2 : (cbN tab x m + 1) * tf tab m ≤ prd (tf tab) m * tf tab m := Nat.mul_le_mul_right _ ih
    rw [Nat.add_mul, Nat.one_mul] at h2
    omega
theorem cbN_v {tab : Tab} {x : Nat → Nat} : ∀ m, (∀ i, i < m → x i < tf tab i) → ∀ i, i < m → vOf (tf tab) m (cbN tab x m) i = x i
  | 0, _, i, hi => absurd hi (Nat.not_lt_zero i)
  | m + 1, h, i, hi => by
    have hm := h m (by omega)
    rw [vOf_s, cbN]
    by_cases him : i < m
    · rw [if_pos him, Nat.mul_comm, Nat.mul_add_div (by omega), Nat.div_eq_of_lt hm, Nat.add_zero]
      exact cbN_v m (fun i hi => h i (by omega)) i him
    · have : i = m := by omega
      subst this
      rw [if_neg him, Nat.mul_comm, Nat.mul_add_mod, Nat.mod_eq_of_lt hm]
theorem cbN_le {tab : Tab} {x : Nat → Nat} : ∀ m c, c < prd (tf tab) m → (∀ i, i < m → x i ≤ vOf (tf tab) m c i) → cbN tab x m ≤ c
  | 0, c, _, _ => Nat.zero_le _
  | m + 1, c, hc, h => by
    rw [prd] at hc
    have hf : 0 < tf tab m := by
      rcases Nat.eq_zero_or_pos (tf tab m) with h0 | h0
      · rw [h0, Nat.mul_zero] at hc; omega
      · exact h0
    have ih := cbN_le m (c / tf tab m) ((Nat.div_lt_iff_lt_mul hf).mpr hc) (fun i hi => by have := h i (by omega); rw [vOf_s, if_pos hi] at this; exact this)
    have hl := h m (by omega)
    rw [vOf_s, if_neg (by omega)] at hl
    have e := Nat.div_add_mod c (tf tab m)
    have h2 := Nat.mul_le_mul_right (tf tab m) ih
    rw [Nat.mul_comm (c / tf tab m)] at h2
    rw [cbN]
    omega
theorem tz6 : ∀ a, a < 64 → a ≠ 0 → ∃ v, v < 6 ∧ a.testBit v = true ∧ ∀ u, u < v → a.testBit u = false := by decide +kernel
/-- the least VALUE of both masks, or 32 -/
def lst (a : Nat) : Nat := (fnd (fun v => a.testBit v) 6).getD 32
theorem lst_some {a v : Nat} (h : fnd (fun v => a.testBit v) 6 = some v) : lst a = v := by unfold lst; rw [h]; rfl
theorem lst_none {a : Nat} (h : fnd (fun v => a.testBit v) 6 = none) : lst a = 32 := by unfold lst; rw [h]; rfl
theorem cnt_hole {tab : Tab} {d c : Nat} (h : d < c) (hd : frow tab d = none) : cntN (fun c => (frow tab c).isNone) d < cntN (fun c => (frow tab c).isNone) c := by
  have h1 : cntN (fun c => (frow tab c).isNone) (d + 1) = cntN (fun c => (frow tab c).isNone) d + 1 := by rw [cntN, if_pos (by rw [hd]; rfl)]
  have h2 := cntN_up (p := fun c => (frow tab c).isNone) (j := d + 1) (c - (d + 1))
  rw [show d + 1 + (c - (d + 1)) = c by omega] at h2
  omega
