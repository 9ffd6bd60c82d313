/-- the world G' is G but for the labels from a to b -/
def EX (G G' : GW) (a b : Nat) : Prop := ∃ N, GX G G' N (fun lb _ => a ≤ lb ∧ lb < b) ∧ ∀ x ∈ N, (a ≤ x ∧ x < b) ∧ x ∉ G.L
theorem EX.rf {G : GW} {a b : Nat} : EX G G a b := ⟨[], GX.rf, fun x h => by cases h⟩
theorem GX.ex {G G' : GW} {N : List Nat} {P : Nat → Nat → Prop} {a b : Nat} (h : GX G G' N P) (h1 : ∀ x ∈ N, (a ≤ x ∧ x < b) ∧ x ∉ G.L) (h2 : ∀ lb j, lb ∉ N → P lb j → a ≤ lb ∧ lb < b) : EX G G' a b := ⟨N, h.m h2, h1⟩
theorem GX.ex1 {G G' : GW} {n : Nat} (h : GX G G' [n] noP) (h1 : n ∉ G.L) : EX G G' n (n + 1) := h.ex (fun x hx => by rw [List.mem_singleton] at hx; subst hx; exact ⟨⟨Nat.le_refl _, Nat.lt_succ_self _⟩, h1⟩) (fun _ _ _ h => h.elim)
theorem EX.set {G : GW} {lb k : Nat} {v : Option Nat} : EX G (G.setR (up2 G.rv lb k v)) lb (lb + 1) := GX.set.ex (fun x hx => by cases hx) (fun b j _ h => by omega)
theorem EX.mono {G G' : GW} {a b c d : Nat} (h : EX G G' a b) (h1 : c ≤ a) (h2 : b ≤ d) : EX G G' c d := by
  obtain ⟨N, h3, h4⟩ := h
  exact ⟨N, h3.m (fun lb j _ hp => by omega), fun x hx => by have := h4 x hx; exact ⟨by omega, this.2⟩⟩
theorem EX.tr {G G1 G2 : GW} {a b : Nat} (h : EX G G1 a b) (h2 : EX G1 G2 a b) : EX G G2 a b := by
  obtain ⟨N, h3, h4⟩ := h
  obtain ⟨M, h5, h6⟩ := h2
  exact ⟨N ++ M, (h3.tr h5).m (fun lb j _ hp => hp.elim id id), fun x hx => (List.mem_append.mp hx).elim (h4 x) (fun hx => ⟨(h6 x hx).1, fun hG => (h6 x hx).2 (h3.mem hG)⟩)⟩
theorem EX.adm {G G' : GW} {a b lb : Nat} (h : EX G G' a b) (hm : lb ∈ G.L) : G'.ad lb = G.ad lb := by
  obtain ⟨N, h1, h2⟩ := h
  exact h1.ad (fun hx => (h2 _ hx).2 hm)
theorem EX.lnm {G G' : GW} {a b lb n : Nat} (h : EX G G' a b) (hm : lb ∈ G.L) (hn : G.ln lb = n) : G'.ln lb = n := by
  obtain ⟨N, h1, h2⟩ := h
  exact h1.ln (fun hx => (h2 _ hx).2 hm) hn
theorem GX.exM {G G' : GW} {n n1 N : Nat} (h : GX G G' (n :: (List.range N).map (fun i => n1 + i)) noP) (hn : n ∉ G.L) (hn1 : ∀ i, i < N → n1 + i ∉ G.L) (hd : n < n1) : EX G G' n (n1 + N) :=
  h.ex (fun x hx => by
    rcases mem_inn.mp hx with h1 | h1
    · subst h1; exact ⟨⟨Nat.le_refl _, by omega⟩, hn⟩
    · exact ⟨⟨by omega, by omega⟩, by have := hn1 (x - n1) (by omega); rw [show n1 + (x - n1) = x by omega] at this; exact this⟩) (fun _ _ _ h => h.elim)
theorem EX.mem {G G' : GW} {a b lb : Nat} (h : EX G G' a b) (hm : lb ∈ G.L) : lb ∈ G'.L := by obtain ⟨N, h1, -⟩ := h; exact h1.mem hm
theorem EX.kd {G G' : GW} {a b lb k : Nat} (h : EX G G' a b) (hk : G.kd lb = k) : G'.kd lb = k := by obtain ⟨N, h1, -⟩ := h; exact h1.kd hk
theorem EX.nin {G G' : GW} {a b lb : Nat} (h : EX G G' a b) (hn : lb ∉ G.L) (hd : lb < a ∨ b ≤ lb) : lb ∉ G'.L := by
  obtain ⟨N, h1, h2⟩ := h
  exact h1.nin hn (fun hx => by have := h2 _ hx; omega)
theorem EX.ad {G G' : GW} {a b lb : Nat} (h : EX G G' a b) (hd : lb < a ∨ b ≤ lb) : G'.ad lb = G.ad lb := by
  obtain ⟨N, h1, h2⟩ := h
  exact h1.ad (fun hx => by have := h2 _ hx; omega)
theorem EX.ln {G G' : GW} {a b lb n : Nat} (h : EX G G' a b) (hd : lb < a ∨ b ≤ lb) (hn : G.ln lb = n) : G'.ln lb = n := by
  obtain ⟨N, h1, h2⟩ := h
  exact h1.ln (fun hx => by have := h2 _ hx; omega) hn
theorem EX.rv {G G' : GW} {a b lb j : Nat} {v : Option Nat} (h : EX G G' a b) (hd : lb < a ∨ b ≤ lb) (hv : G.rv lb j = v) : G'.rv lb j = v := by
  obtain ⟨N, h1, h2⟩ := h
  exact h1.rv (fun hx => by have := h2 _ hx; omega) (by omega) hv
theorem isA.em {G G' : GW} {a b lb k n : Nat} (h : isA G lb k n) (hX : EX G G' a b) : isA G' lb k n := ⟨hX.mem h.1, hX.kd h.2.1, hX.lnm h.1 h.2.2⟩
theorem isA.e {G G' : GW} {a b lb k n : Nat} (h : isA G lb k n) (hX : EX G G' a b) (hd : lb < a ∨ b ≤ lb) : isA G' lb k n := ⟨hX.mem h.1, hX.kd h.2.1, hX.ln hd h.2.2⟩
theorem isCo.e {G G' : GW} {a b c : Nat} (h : isCo G c) (hX : EX G G' a b) (hd : c + 2 ≤ a ∨ b ≤ c) : isCo G' c :=
  ⟨⟨hX.mem h.1.1, hX.kd h.1.2⟩, ⟨hX.mem h.2.1.1, hX.kd h.2.1.2.1, hX.ln (by omega) h.2.1.2.2⟩, hX.rv (by omega) h.2.2⟩
theorem isRo.e {G G' : GW} {a b r : Nat} (h : isRo G r) (hX : EX G G' a b) (hd : r + 3 ≤ a ∨ b ≤ r) : isRo G' r :=
  ⟨⟨hX.mem h.1.1, hX.kd h.1.2⟩, ⟨hX.mem h.2.1.1, hX.kd h.2.1.2.1, hX.ln (by omega) h.2.1.2.2⟩, ⟨hX.mem h.2.2.1.1, hX.kd h.2.2.1.2.1, hX.ln (by omega) h.2.2.1.2.2⟩, hX.rv (by omega) h.2.2.2.1, hX.rv (by omega) h.2.2.2.2⟩
theorem isLa.e {G G' : GW} {a b c : Nat} (h : isLa G c) (hX : EX G G' a b) (hd : c + 40 ≤ a ∨ b ≤ c) : isLa G' c :=
  ⟨⟨hX.mem h.1.1, hX.kd h.1.2⟩, ⟨hX.mem h.2.1.1, hX.kd h.2.1.2.1, hX.ln (by omega) h.2.1.2.2⟩, fun i hi => (h.2.2.1 i hi).e hX (by omega), h.2.2.2.1.e hX (by omega), hX.rv (by omega) h.2.2.2.2.1, fun i hi => hX.rv (by omega) (h.2.2.2.2.2.1 i hi), hX.rv (by omega) h.2.2.2.2.2.2.1, hX.rv (by omega) h.2.2.2.2.2.2.2⟩
theorem isWh.e {G G' : GW} {a b w : Nat} (h : isWh G w) (hX : EX G G' a b) (hd : w + 4 ≤ a ∨ b ≤ w) : isWh G' w :=
  ⟨⟨hX.mem h.1.1, hX.kd h.1.2⟩, h.2.1.e hX (by omega), hX.rv (by omega) h.2.2⟩
theorem isCa.e {G G' : GW} {a b t m C : Nat} (h : isCa G t m C) (hX : EX G G' a b) (hm : m ≤ 5) (hd : t + 8 ≤ a ∨ b ≤ t) : isCa G' t m C :=
  ⟨h.1.e hX (by omega), fun i hi => ⟨(h.2 i hi).1.e hX (by omega), hX.rv (by omega) (h.2 i hi).2⟩⟩
theorem isTm.e {G G' : GW} {a b u m C K : Nat} (h : isTm G u m C K) (hX : EX G G' a b) (hm : m ≤ 5) (hd : u + 15 ≤ a ∨ b ≤ u) : isTm G' u m C K := by
  obtain ⟨⟨mu, ku⟩, hB1, hB2, hB3, hBi, hB10, hB11, hB12, hB13, hB14, s0, s1, s3, s4, s5, s6, s7, s8⟩ := h
  exact ⟨⟨hX.mem mu, hX.kd ku⟩, hB1.e hX (by omega), hB2.e hX (by omega), hB3.e hX (by omega), fun i hi => ⟨(hBi i hi).1.e hX (by omega), hX.rv (by omega) (hBi i hi).2⟩, hB10.e hX (by omega), hB11.e hX (by omega), hB12.e hX (by omega), hB13.e hX (by omega), hB14.e hX (by omega), hX.rv (by omega) s0, hX.rv (by omega) s1, hX.rv (by omega) s3, hX.rv (by omega) s4, hX.rv (by omega) s5, hX.rv (by omega) s6, hX.rv (by omega) s7, hX.rv (by omega) s8⟩
theorem isTb.e {G G' : GW} {a b t c m C R K : Nat} (h : isTb G t c m C R K) (hX : EX G G' a b) (hm : m ≤ 5) (hd : t + 40 ≤ a ∨ b ≤ t) (hd2 : c + 40 ≤ a ∨ b ≤ c) : isTb G' t c m C R K := by
  obtain ⟨⟨mt, kt⟩, hL, hCa, hA10, hA11, hA12, hA13, hA14, hA15, hA16, hA17, hTm, r0, r2, r3, r4, r5, r6, r8, r9, r11, r13, r14⟩ := h
  exact ⟨⟨hX.mem mt, hX.kd kt⟩, hL.e hX hd2, hCa.e hX hm (by omega), hA10.e hX (by omega), hA11.e hX (by omega), hA12.e hX (by omega), hA13.e hX (by omega), hA14.e hX (by omega), hA15.e hX (by omega), hA16.e hX (by omega), hA17.e hX (by omega), hTm.e hX hm (by omega), hX.rv (by omega) r0, hX.rv (by omega) r2, hX.rv (by omega) r3, hX.rv (by omega) r4, hX.rv (by omega) r5, hX.rv (by omega) r6, hX.rv (by omega) r8, hX.rv (by omega) r9, hX.rv (by omega) r11, hX.rv (by omega) r13, hX.rv (by omega) r14⟩
theorem isPg.e {G G' : GW} {a b p t C : Nat} (h : isPg G p t C) (hX : EX G G' a b) (hd : p + 2 ≤ a ∨ b ≤ p) : isPg G' p t C :=
  ⟨⟨hX.mem h.1.1, hX.kd h.1.2⟩, h.2.1.e hX (by omega), hX.rv (by omega) h.2.2.1, hX.rv (by omega) h.2.2.2⟩
theorem isOu.e {G G' : GW} {a b : Nat} (h : isOu G) (hX : EX G G' a b) (hd : 111 ≤ a ∨ b ≤ 109) : isOu G' :=
  ⟨⟨hX.mem h.1.1, hX.kd h.1.2⟩, h.2.1.e hX (by omega), hX.rv (by omega) h.2.2⟩
theorem isPx.e {G G' : GW} {a b : Nat} (h : isPx G) (hX : EX G G' a b) (hd : 107 ≤ a ∨ b ≤ 101) : isPx G' := by
  obtain ⟨⟨a1, a2⟩, ⟨b1, b2⟩, ⟨c1, c2, c3⟩, ⟨d1, d2, d3⟩, ⟨e1, e2, e3⟩, ⟨f1, f2, f3⟩, g1, g2, g3, g4⟩ := h
  exact ⟨⟨hX.mem a1, hX.kd a2⟩, ⟨hX.mem b1, hX.kd b2⟩, ⟨hX.mem c1, hX.kd c2, hX.ln (by omega) c3⟩, ⟨hX.mem d1, hX.kd d2, hX.ln (by omega) d3⟩, ⟨hX.mem e1, hX.kd e2, hX.ln (by omega) e3⟩, ⟨hX.mem f1, hX.kd f2, hX.ln (by omega) f3⟩, hX.rv (by omega) g1, hX.rv (by omega) g2, hX.rv (by omega) g3, hX.rv (by omega) g4⟩
theorem isM.e {G G' : GW} {a b : Nat} (h : isM G) (hX : EX G G' a b) (ha : 43 ≤ a) : isM G' := by
  have hmA : ∀ k ∈ mArr, k < 43 := by decide +kernel
  exact ⟨⟨hX.mem h.1.1, hX.kd h.1.2⟩, fun k hk => by
    have h1 := h.2 k hk
    have h2 := hmA k hk
    exact ⟨hX.mem h1.1, hX.kd h1.2.1, hX.ln (by omega) h1.2.2.1, hX.rv (by omega) h1.2.2.2⟩⟩
theorem Fr.clr {a b : IV} {P : Nat → Nat → Prop} {n : Nat} {v : Int32} (h1 : Fr a b P) (h : ∀ j, P n j) : Fr a (clr b n v) P := fun lb j hn => by
  have hne : lb ≠ n := fun e => hn (by rw [e]; exact h j)
  rw [clr_l hne]; exact h1 lb j hn
theorem FrJ.clr {a b : JV} {P : Nat → Nat → Prop} {n : Nat} {v : Int64} (h1 : FrJ a b P) (h : ∀ j, P n j) : FrJ a (clr b n v) P := fun lb j hn => by
  have hne : lb ≠ n := fun e => hn (by rw [e]; exact h j)
  rw [clr_l hne]; exact h1 lb j hn
theorem Fr.clrs {a b : IV} {P : Nat → Nat → Prop} {n n1 N : Nat} {v : Int32} (h1 : Fr a b P) (h : ∀ lb j, lb = n ∨ (n1 ≤ lb ∧ lb < n1 + N) → P lb j) : Fr a (clrs b n1 N n v) P := fun lb j hn => by
  show (if lb = n ∨ (n1 ≤ lb ∧ lb < n1 + N) then v else b lb j) = _
  rw [if_neg (fun e => hn (h lb j e))]; exact h1 lb j hn
theorem FrJ.clrs {a b : JV} {P : Nat → Nat → Prop} {n n1 N : Nat} {v : Int64} (h1 : FrJ a b P) (h : ∀ lb j, lb = n ∨ (n1 ≤ lb ∧ lb < n1 + N) → P lb j) : FrJ a (clrs b n1 N n v) P := fun lb j hn => by
  show (if lb = n ∨ (n1 ≤ lb ∧ lb < n1 + N) then v else b lb j) = _
  rw [if_neg (fun e => hn (h lb j e))]; exact h1 lb j hn
theorem LAY.fr2 {iv iv' : IV} {jv jv' : JV} {b : Nat} {tab : Tab} {P Q : Nat → Nat → Prop} (h : LAY iv jv b tab) (hF : Fr iv iv' P) (hJ : FrJ jv jv' Q) (hP : ∀ lb j, b ≤ lb → lb < b + 40 → ¬ P lb j) (hQ : ∀ lb j, b ≤ lb → lb < b + 40 → ¬ Q lb j) : LAY iv' jv' b tab :=
  ⟨h.1.fr hF hJ (fun j => hP _ _ (by omega) (by omega)) (fun i hi => ⟨fun j => hP _ _ (by omega) (by have := h.1.2.2.1; omega), fun j => hQ _ _ (by omega) (by have := h.1.2.2.1; omega), fun j => hQ _ _ (by omega) (by have := h.1.2.2.1; omega)⟩), h.2.1.fr hF hJ (hP _ _ (by omega) (by omega)) (fun v => hQ _ _ (by omega) (by omega)), h.2.2.fr h.1.2.2.1 hF (hP _ _ (by omega) (by omega)) (fun j _ => hP _ _ (by omega) (by omega)) (fun j _ => hP _ _ (by omega) (by omega))⟩
theorem EX_kd {G G' : GW} {a b : Nat} (h : EX G G' a b) : G'.kd = G.kd := by obtain ⟨N, h1, -⟩ := h; exact h1.2.2.1
theorem nb1 {w : Cond} (i : Nat) (h : tables_1_1[i]? = some w) (g : nwk w = true) : w ∈ nwL := List.mem_filter.mpr ⟨List.mem_append_right _ (List.mem_append_left _ (List.mem_of_getElem? h)), g⟩
/-! kinds of the labels -/
def kWh (i : Nat) : Nat := match i with
  | 0 => 9
  | 1 => 6
  | _ => 13
def kLa (i : Nat) : Nat := if i = 0 then 1 else if i = 1 then 16 else if i = 30 then 6 else if i = 31 ∨ i = 32 then 13 else if i % 2 = 0 then 0 else 14
/-- the class's fixed labels -/
def kd0 (i : Nat) : Nat := match i with
  | 50 => 14
  | 100 => 10
  | 101 => 12
  | 102 => 4
  | 103 => 2
  | 104 => 13
  | 105 => 13
  | 106 => 14
  | 107 => 18
  | 108 => 17
  | 109 => 3
  | 110 => 12
  | i => if i = 0 then 11 else mK i
def isLx (G : GW) : Prop := (103 ∈ G.L ∧ G.kd 103 = 2) ∧ isA G 104 13 1001 ∧ isA G 105 13 1001 ∧ isA G 106 14 1001 ∧ G.rv 103 0 = some 104 ∧ G.rv 103 1 = some 105 ∧ G.rv 103 2 = some 106
def isPz (G : GW) : Prop := (102 ∈ G.L ∧ G.kd 102 = 4) ∧ isLx G ∧ G.rv 102 0 = some 103
theorem isLx.e {G G' : GW} {a b : Nat} (h : isLx G) (hX : EX G G' a b) (hd : 107 ≤ a ∨ b ≤ 103) : isLx G' :=
  ⟨⟨hX.mem h.1.1, hX.kd h.1.2⟩, h.2.1.em hX, h.2.2.1.em hX, h.2.2.2.1.em hX, hX.rv (by omega) h.2.2.2.2.1, hX.rv (by omega) h.2.2.2.2.2.1, hX.rv (by omega) h.2.2.2.2.2.2⟩
theorem isPz.e {G G' : GW} {a b : Nat} (h : isPz G) (hX : EX G G' a b) (hd : 107 ≤ a ∨ b ≤ 102) : isPz G' :=
  ⟨⟨hX.mem h.1.1, hX.kd h.1.2⟩, h.2.1.e hX (by omega), hX.rv (by omega) h.2.2⟩
def kTb (i : Nat) : Nat := if i = 0 then 7 else if i = 1 ∨ i = 23 then 19 else if i = 20 then 8 else if i = 16 ∨ i = 34 then 15 else 13
/-- products from the last factor on -/
def sp (g : Nat → Nat) (m j : Nat) : Nat := if j = 0 then prd g m else st g m (j - 1)
theorem sp_s {g : Nat → Nat} {m i : Nat} : sp g m (i + 1) = st g m i := by unfold sp; rw [if_neg (by omega), Nat.add_sub_cancel]
theorem sp_m {g : Nat → Nat} {m : Nat} (h : 1 ≤ m) : sp g m m = 1 := by
  obtain ⟨k, rfl⟩ : ∃ k, m = k + 1 := ⟨m - 1, by omega⟩
  rw [sp_s, st, if_neg (by omega)]
theorem sp_p {g : Nat → Nat} {m i : Nat} (h : i < m) : sp g m i = sp g m (i + 1) * g i := by
  rw [sp_s]
  unfold sp
  by_cases h0 : i = 0
  · subst h0; rw [if_pos rfl]; exact (st_0 m (by omega)).symm
  · rw [if_neg h0]
    rcases st_prd (g := g) m i h with h1 | h1
    · exact h1.symm
    · exact absurd h1 h0
theorem sp_0 {g : Nat → Nat} {m : Nat} : sp g m 0 = prd g m := if_pos rfl
theorem tri1 : ∀ R, R ≤ 40 → nI R * (nI R - nI 1) = nI (R * (R - 1)) ∧ R * (R - 1) ≤ 1600 := by decide +kernel
theorem csz_tC {tab : Tab} : csz (szs tab.1) = tC tab := by
  unfold csz tC tm szs
  rw [List.length_map]
  rfl
theorem LAY.cc {iv : IV} {jv : JV} {b : Nat} {tab : Tab} (h : LAY iv jv b tab) : iv b 1 = nI (tC tab) := by rw [← csz_tC]; exact h.1.2.1
theorem kTb_24 : ∀ {i : Nat}, i < 5 → kTb (20 + (4 + i)) = 13 := by decide +kernel
theorem kTb_2 : ∀ {i : Nat}, i < 5 → kTb (2 + i) = 13 := by decide +kernel
theorem dl (t : Nat) {a c : Nat} (h : a < c) : t + a < t + c := Nat.add_lt_add_left h t
theorem dle (t : Nat) {a c : Nat} (h : a ≤ c) : t + a ≤ t + c := Nat.add_le_add_left h t
theorem dn (t : Nat) {a c : Nat} (h : a ≠ c) : ¬ t + a = t + c := fun h2 => h (Nat.add_left_cancel h2)
