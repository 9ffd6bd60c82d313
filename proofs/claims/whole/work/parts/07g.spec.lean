theorem cntN_all {p : Nat → Bool} : ∀ n, cntN p n = n ↔ allI p n = true
  | 0 => ⟨fun _ => rfl, fun _ => rfl⟩
  | n + 1 => by
    have ih := cntN_all (p := p) n
    have hle := cntN_le (p := p) n
    rw [cntN, allI, Bool.and_eq_true, ← ih]
    by_cases h : p n = true
    · rw [if_pos h]; exact ⟨fun h1 => ⟨by omega, h⟩, fun h1 => by omega⟩
    · rw [if_neg h]; exact ⟨fun h1 => by omega, fun h1 => absurd h1.2 h⟩
theorem tAt_some {tab : Tab} {q i : Nat} : (tAt tab q i).isSome = decide (vOf (g1 tab) (tm tab) q i ≠ tf tab i) := by
  by_cases h : vOf (g1 tab) (tm tab) q i = tf tab i
  · rw [tAt_n.mpr h, decide_eq_false (by simpa using h)]; rfl
  · rw [tAt_v h, decide_eq_true h]; rfl
theorem tld_ful {tab : Tab} {q : Nat} : tld tab q = tm tab ↔ ful tab (tm tab) q = true := by
  unfold tld ful
  rw [cntN_all]
  rw [allI_congr (tm tab) (fun i _ => tAt_some)]
/-- all that the class knows of a finished TABLE -/
def TBd (iv : IV) (t : Nat) (tab : Tab) : Prop := iv t 1 = nI (tC tab) ∧ CVl iv t tab ∧ (iv t 7 = nI (nHo tab) ∧ (∀ d, d < tC tab → iv (t + 10) d = oI (ans tab d) ∧ iv (t + 11) d = oI (frow tab d) ∧ iv (t + 12) d = nI (cntN (fun r => fit tab r d) (tR tab))) ∧ (∀ d, d < tC tab → frow tab d = none → iv (t + 13) (cntN (fun c => (frow tab c).isNone) d) = nI d)) ∧ QLs iv t (qL tab) ∧ ((∀ k, k < tR tab → iv (t + 16) k = bI (idl tab k)) ∧ iv t 12 = nI (cntN (fun r => idl tab r) (tR tab))) ∧ TmV iv (t + 20) tab ∧ (∀ p, p < tT tab → ∃ y, iv (t + 20 + 12) p = y ∧ onR y (AV tab p)) ∧ TK iv t ((rule tab).map (fun x => x.1) ++ offers tab) ∧ iv t 15 = nI (rule tab).length
theorem TBd.fr {iv iv' : IV} {t : Nat} {tab : Tab} {P : Nat → Nat → Prop} (h : TBd iv t tab) (hm : tm tab ≤ 5) (hF : Fr iv iv' P) (hP : ∀ lb j, t ≤ lb → lb < t + 40 → ¬ P lb j) : TBd iv' t tab := by
  obtain ⟨h1, h2, ⟨h3, h4, h5⟩, h6, ⟨h7, h8⟩, h9, h10, h11, h12⟩ := h
  have np : ∀ k j, k < 40 → ¬ P (t + k) j := fun k j hk => hP _ _ (by omega) (by omega)
  exact ⟨(hF _ _ (hP _ _ (by omega) (by omega))).trans h1, h2.fr hF (fun i hi c => hP _ _ (by omega) (by omega)), ⟨(hF _ _ (hP _ _ (by omega) (by omega))).trans h3, fun d hd => ⟨(hF _ _ (np 10 _ (by omega))).trans (h4 d hd).1, (hF _ _ (np 11 _ (by omega))).trans (h4 d hd).2.1, (hF _ _ (np 12 _ (by omega))).trans (h4 d hd).2.2⟩, fun d hd hn => (hF _ _ (np 13 _ (by omega))).trans (h5 d hd hn)⟩, h6.fr hF (hP _ _ (by omega) (by omega)) (fun k => np 14 _ (by omega)) (fun k => np 15 _ (by omega)), ⟨fun k hk => (hF _ _ (np 16 _ (by omega))).trans (h7 k hk), (hF _ _ (hP _ _ (by omega) (by omega))).trans h8⟩, h9.fr hF (np 20 _ (by omega)) (fun lb j h1 h2 => hP _ _ (by omega) (by omega)) hm, fun p hp => by
    obtain ⟨y, h1, h2⟩ := h10 p hp
    exact ⟨y, (hF _ _ (hP _ _ (by omega) (by omega))).trans h1, h2⟩, h11.fr hF (hP _ _ (by omega) (by omega)) (fun c => np 17 _ (by omega)), (hF _ _ (hP _ _ (by omega) (by omega))).trans h12⟩
def a00 : AS := (0, fun _ => 0, -1, [], [], [])
/-- what never changes of the class's object -/
def isX0 (G : GW) : Prop := (100 ∈ G.L ∧ G.kd 100 = 10) ∧ isPx G ∧ isA G 107 18 6 ∧ isA G 108 17 12 ∧ isOu G ∧ G.rv 100 0 = some 101 ∧ G.rv 100 2 = some 102 ∧ G.rv 100 3 = some 107 ∧ G.rv 100 5 = some 108 ∧ G.rv 100 10 = some 109
theorem EX.cov {G G' : GW} {a b lb : Nat} (h : EX G G' a b) (hm : lb ∈ G'.L) : lb ∈ G.L ∨ (a ≤ lb ∧ lb < b) := by
  obtain ⟨N, h1, h2⟩ := h
  rw [h1.2.2.2.1] at hm
  exact (List.mem_append.mp hm).imp id (fun h => (h2 _ h).1)
