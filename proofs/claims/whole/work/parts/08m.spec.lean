theorem lowA (y : Int32) : (y &&& nI 255).toInt8 = y.toInt8 := by
  rw [Int32.toInt8_and]; rw [show (nI 255).toInt8 = -1 by decide]; simp
theorem sb_k : ∀ k, k < 256 → (nI k).toInt8.toInt32 = sbI k ∧ vp_nar .byte (sbI k) = sbI k := by decide +kernel
theorem lowB (x : BitVec 32) (s : Nat) (hs : s ≤ 24) : BitVec.signExtend 8 (x >>> s) = BitVec.signExtend 8 (x.sshiftRight s) := by
  rw [BitVec.signExtend_eq_setWidth_of_le _ (by decide), BitVec.signExtend_eq_setWidth_of_le _ (by decide)]
  apply BitVec.eq_of_getLsbD_eq
  intro i hi
  simp only [BitVec.getLsbD_setWidth, BitVec.getLsbD_ushiftRight, BitVec.getLsbD_sshiftRight]
  have h1 : ¬ 32 ≤ i := by omega
  have h2 : s + i < 32 := by omega
  simp [h1, h2]
theorem shB (x : Int32) : ∀ s, s = 0 ∨ s = 8 ∨ s = 16 ∨ s = 24 → ((x.toUInt32 >>> (nI s &&& 31).toUInt32).toInt32).toInt8 = (x >>> (nI s &&& 31)).toInt8 := by
  intro s hs
  apply Int8.toBitVec_inj.mp
  rcases hs with h | h | h | h <;> subst h
  all_goals simp [nI]
  · exact lowB _ 8 (by decide)
  · exact lowB _ 16 (by decide)
  · exact lowB _ 24 (by decide)
theorem byteB (x : Int32) (s : Nat) (hs : s = 0 ∨ s = 8 ∨ s = 16 ∨ s = 24) : ((x.toUInt32 >>> (nI s &&& 31).toUInt32).toInt32).toInt8.toInt32 = sbI (cl ((x >>> (nI s &&& 31)) &&& nI 255)) := by
  rw [shB x s hs, ← lowA]
  have h := and255 (x >>> (nI s &&& 31))
  rw [h.1, cl_nI (by omega)]
  exact (sb_k _ h.2).1
def bX (x : Int32) (j : Nat) : Nat := cl ((x >>> (nI (24 - 8 * j) &&& 31)) &&& nI 255)
theorem bX_lt {x : Int32} {j : Nat} : bX x j < 256 := (and255 _).2
theorem fby_b {w : Nat → Int32} {i : Nat} : fby w i = bX (w (i / 4)) (i % 4) := rfl
def sK (k : Nat) : Int32 := 24 - nI (8 * k)
theorem sK_n : ∀ k, k < 4 → sK k = nI (24 - 8 * k) := by decide
theorem sK_s : ∀ k, k < 4 → sK k + -8 = sK (k + 1) := by decide
theorem sK_l : ∀ k, k < 5 → (sK k < 0 ↔ k = 4) := by decide
theorem bX_b (x : Int32) (k : Nat) (hk : k < 4) : ((x.toUInt32 >>> (sK k &&& 31).toUInt32).toInt32).toInt8.toInt32 = sbI (bX x k) := by
  rw [sK_n k hk]; exact byteB x _ (by omega)
theorem fdStep {iv iv' : IV} {n m : Nat} {W : Nat → Int32} (h : ∀ i, i < 4 * m → iv 101 (n + i) = sbI (fby W i)) (hb : ∀ j, j < 4 → iv' 101 (n + 4 * m + j) = sbI (bX (W m) j)) (hF : Fr iv iv' (fun lb j => (lb = 100 ∧ j = 1) ∨ (lb = 101 ∧ n + 4 * m ≤ j))) : ∀ i, i < 4 * (m + 1) → iv' 101 (n + i) = sbI (fby W i) := fun i hi => by
  by_cases h4 : i < 4 * m
  · exact (hF _ _ (by omega)).trans (h i h4)
  · have h0 := hb (i - 4 * m) (by omega)
    rw [show n + 4 * m + (i - 4 * m) = n + i by omega] at h0
    rw [h0, fby_b, show i / 4 = m by omega, show i % 4 = i - 4 * m by omega]
theorem CSt.feed {G : GW} {iv iv' : IV} {jv : JV} {a : AS} {W : Nat → Int32} (h : CSt G iv jv a) (hn : aN a + 20 ≤ 1000) (hF : Fr iv iv' (fun lb j => (lb = 100 ∧ j = 1) ∨ (lb = 101 ∧ aN a ≤ j))) (h1 : iv' 100 1 = nI (aN a + 20)) (hb : ∀ i, i < 20 → iv' 101 (aN a + i) = sbI (fby W i)) : CSt G iv' jv (aN a + 20, fun k => if k < aN a then aY a k else fby W (k - aN a), aF a, aT a, aP a, aO a) := by
  obtain ⟨h0, hw, ⟨t1, t2, t3, t4⟩, h3, ⟨b1, b2, b3⟩, ⟨p1, p2, p3⟩, hO, h7⟩ := h
  refine ⟨h0, hw, ⟨h1, hn, fun k hk => ?_, fun k hk => ?_⟩, (hF _ _ (by omega)).trans h3, ⟨(hF _ _ (by omega)).trans b1, b2, fun k hk => (b3 k hk).fr hF (fun lb j h1 h2 => by unfold bL at h1; omega)⟩, ⟨(hF _ _ (by omega)).trans p1, p2, fun j hj => (p3 j hj).fr hF (fun i => by unfold gL; omega)⟩, hO.fr hF (fun lb j h1 h2 => by omega), h7⟩
  · have hk2 : k < aN a + 20 := hk
    show iv' 101 k = sbI (if k < aN a then aY a k else fby W (k - aN a))
    by_cases hka : k < aN a
    · rw [if_pos hka]; exact (hF _ _ (by omega)).trans (t3 k hka)
    · rw [if_neg hka]; have := hb (k - aN a) (by omega); rwa [show aN a + (k - aN a) = k by omega] at this
  · show (if k < aN a then aY a k else fby W (k - aN a)) < 256
    by_cases hka : k < aN a
    · rw [if_pos hka]; exact t4 k hka
    · rw [if_neg hka]; exact (and255 _).2
