/-! ===== new things ===== -/
theorem sty_le (ci k : Nat) : sty ci k ≤ 2 := by
  unfold sty
  repeat' split
  all_goals decide
/-- the world G' has all of G's things and those of N; references may differ at P -/
def GX (G G' : GW) (N : List Nat) (P : Nat → Nat → Prop) : Prop := G'.D = G.D ∧ G'.cy = G.cy ∧ G'.kd = G.kd ∧ G'.L = G.L ++ N ∧ (∀ lb, lb ∉ N → G'.ad lb = G.ad lb ∧ G'.ln lb = G.ln lb) ∧ ∀ lb j, lb ∉ N → ¬ P lb j → G'.rv lb j = G.rv lb j
abbrev noP : Nat → Nat → Prop := fun _ _ => False
theorem GX.rf {G : GW} {P : Nat → Nat → Prop} : GX G G [] P := ⟨rfl, rfl, rfl, (List.append_nil _).symm, fun _ _ => ⟨rfl, rfl⟩, fun _ _ _ _ => rfl⟩
theorem GX.tr {G G1 G2 : GW} {N M : List Nat} {P Q : Nat → Nat → Prop} (h : GX G G1 N P) (h2 : GX G1 G2 M Q) : GX G G2 (N ++ M) (fun lb j => P lb j ∨ Q lb j) := by
  obtain ⟨a1, a2, a3, a4, a5, a6⟩ := h
  obtain ⟨b1, b2, b3, b4, b5, b6⟩ := h2
  refine ⟨b1.trans a1, b2.trans a2, b3.trans a3, by rw [b4, a4, List.append_assoc], fun lb hl => ?_, fun lb j hl hp => ?_⟩
  · rw [List.mem_append, not_or] at hl
    exact ⟨(b5 lb hl.2).1.trans (a5 lb hl.1).1, (b5 lb hl.2).2.trans (a5 lb hl.1).2⟩
  · rw [List.mem_append, not_or] at hl
    rw [not_or] at hp
    exact (b6 lb j hl.2 hp.2).trans (a6 lb j hl.1 hp.1)
theorem GX.mono {G G' : GW} {N : List Nat} {P Q : Nat → Nat → Prop} (h : GX G G' N P) (hPQ : ∀ lb j, lb ∈ G'.L → lb ∉ N → P lb j → Q lb j) (hc : ∀ lb j, lb ∉ N → ¬ Q lb j → P lb j → G'.rv lb j = G.rv lb j) : GX G G' N Q :=
  ⟨h.1, h.2.1, h.2.2.1, h.2.2.2.1, h.2.2.2.2.1, fun lb j hl hq => by
    by_cases hp : P lb j
    · exact hc lb j hl hq hp
    · exact h.2.2.2.2.2 lb j hl hp⟩
theorem GX.m {G G' : GW} {N : List Nat} {P Q : Nat → Nat → Prop} (h : GX G G' N P) (hPQ : ∀ lb j, lb ∉ N → P lb j → Q lb j) : GX G G' N Q :=
  ⟨h.1, h.2.1, h.2.2.1, h.2.2.2.1, h.2.2.2.2.1, fun lb j hl hq => h.2.2.2.2.2 lb j hl (fun hp => hq (hPQ lb j hl hp))⟩
theorem GX.mem {G G' : GW} {N : List Nat} {P : Nat → Nat → Prop} (h : GX G G' N P) {lb : Nat} (hm : lb ∈ G.L) : lb ∈ G'.L := by rw [h.2.2.2.1]; exact List.mem_append_left _ hm
theorem GX.new {G G' : GW} {N : List Nat} {P : Nat → Nat → Prop} (h : GX G G' N P) {lb : Nat} (hm : lb ∈ N) : lb ∈ G'.L := by rw [h.2.2.2.1]; exact List.mem_append_right _ hm
theorem GX.nin {G G' : GW} {N : List Nat} {P : Nat → Nat → Prop} (h : GX G G' N P) {lb : Nat} (h1 : lb ∉ G.L) (h2 : lb ∉ N) : lb ∉ G'.L := by rw [h.2.2.2.1, List.mem_append]; exact fun h => h.elim h1 h2
theorem GX.kd {G G' : GW} {N : List Nat} {P : Nat → Nat → Prop} (h : GX G G' N P) {lb k : Nat} (hk : G.kd lb = k) : G'.kd lb = k := by rw [h.2.2.1]; exact hk
theorem GX.ad {G G' : GW} {N : List Nat} {P : Nat → Nat → Prop} (h : GX G G' N P) {lb : Nat} (hl : lb ∉ N) : G'.ad lb = G.ad lb := (h.2.2.2.2.1 lb hl).1
theorem GX.ln {G G' : GW} {N : List Nat} {P : Nat → Nat → Prop} (h : GX G G' N P) {lb n : Nat} (hl : lb ∉ N) (hn : G.ln lb = n) : G'.ln lb = n := (h.2.2.2.2.1 lb hl).2.trans hn
theorem GX.rv {G G' : GW} {N : List Nat} {P : Nat → Nat → Prop} (h : GX G G' N P) {lb j : Nat} {v : Option Nat} (hl : lb ∉ N) (hp : ¬ P lb j) (hv : G.rv lb j = v) : G'.rv lb j = v := (h.2.2.2.2.2 lb j hl hp).trans hv
theorem GX.set {G : GW} {lb k : Nat} {v : Option Nat} : GX G (G.setR (up2 G.rv lb k v)) [] (fun b j => b = lb ∧ j = k) :=
  ⟨rfl, rfl, rfl, (List.append_nil _).symm, fun _ _ => ⟨rfl, rfl⟩, fun b j _ hp => by
    show up2 G.rv lb k v b j = _
    by_cases hb : b = lb
    · subst hb; exact up2_k (fun h => hp ⟨rfl, h⟩)
    · exact up2_l hb⟩
theorem setR_s {G : GW} {lb k : Nat} {v : Option Nat} : (G.setR (up2 G.rv lb k v)).rv lb k = v := up2_s
theorem isA.x {G G' : GW} {N : List Nat} {P : Nat → Nat → Prop} {lb k n : Nat} (h : isA G lb k n) (hX : GX G G' N P) (hl : lb ∉ N) : isA G' lb k n := ⟨hX.mem h.1, hX.kd h.2.1, hX.ln hl h.2.2⟩
theorem add_GX {G : GW} {n q z : Nat} : GX G (G.add n q z) [n] noP :=
  ⟨rfl, rfl, rfl, rfl, fun lb hl => by
    have hn : lb ≠ n := fun h => hl (by rw [h]; exact List.mem_singleton_self n)
    exact ⟨va_up_ne G.ad q hn, va_up_ne G.ln z hn⟩, fun lb j hl _ => by
    have hn : lb ≠ n := fun h => hl (by rw [h]; exact List.mem_singleton_self n)
    exact clr_l hn⟩
theorem add_s {G : GW} {n q z : Nat} : (G.add n q z).ad n = q ∧ (G.add n q z).ln n = z ∧ (∀ j, (G.add n q z).rv n j = none) ∧ n ∈ (G.add n q z).L :=
  ⟨va_up_self _ _ _, va_up_self _ _ _, fun j => clr_s, List.mem_append_right _ (List.mem_singleton_self n)⟩
theorem add_ok {G : GW} {n q z : Nat} (h : G.ok) (hn : n ∉ G.L) (hq : ∀ b ∈ G.L, G.ad b ≠ q) (hz : z < 2147483648) : (G.add n q z).ok := by
  refine ⟨add_nodup h.1 hn hq, fun lb hl => ?_, fun b hb j c hc => ?_⟩
  · rcases List.mem_append.mp hl with h1 | h1
    · have hne : lb ≠ n := fun e => hn (e ▸ h1)
      rw [(add_GX (G := G) (n := n) (q := q) (z := z)).2.2.2.2.1 lb (by simpa using hne) |>.2]
      exact h.2.1 lb h1
    · rw [List.mem_singleton] at h1; subst h1; rw [add_s.2.1]; exact hz
  · have hc : clr G.rv n none b j = some c := hc
    by_cases hb2 : b = n
    · subst hb2; rw [clr_s] at hc; cases hc
    · rw [clr_l hb2] at hc
      have hbL : b ∈ G.L := by
        rcases List.mem_append.mp hb with h1 | h1
        · exact h1
        · rw [List.mem_singleton] at h1; exact absurd h1 hb2
      exact List.mem_append_left _ (h.2.2 b hbL j c hc)
section NW1
variable {p : Program} {l : Launch} {e : Env} {R : Room} {s : State} {m : MethodId} {args : Array Value} {below : List Frame} {meth : Method} {c : Code} {H : Heap} {locs : List Loc} {cells slots : Nat} {Q : State → Prop}
variable {cc : ByteArray} {pc : Nat} {ls : Array Slot} {rest : List Value} {D : va_G} {cy : Nat → ClassId} {G : GW} {A : Nat → Prop} {H0 : Heap} {iv : IV} {jv : JV} {own : String} {lb ci k idx : Nat} {z : ZK}
/-- another stack of the same values -/
theorem rg_st {st st' : List Value} (h : st = st') (kk : W p l e R s m args below meth c H locs cells slots Q (F0 m pc ls st')) : W p l e R s m args below meth c H locs cells slots Q (F0 m pc ls st) := by rw [h]; exact kk
/-- the world with a new thing -/
theorem hs_add {n q N : Nat} {H1 : Heap} {ee : va_E} (hH : HS D cy G A H0 iv jv H locs) (hn : n ∉ G.L) (hN : N < 2147483648) (hP : va_P D vwCl (wl G iv jv ++ [(q, ee)]) H1) (hD : va_D A (wl G iv jv ++ [(q, ee)])) (hS : va_S A H0 H1 locs) (he : ee = pE (G.add n q N) (clr iv n 0) (clr jv n 0) n) : HS D cy (G.add n q N) A H0 (clr iv n 0) (clr jv n 0) H1 locs := by
  obtain ⟨g1, g2, -, -, hok, hLA, hA⟩ := hH
  have hlen : (wl G iv jv ++ [(q, ee)])[(wl G iv jv).length]? = some (q, ee) := by simp
  have hq : ∀ b ∈ G.L, G.ad b ≠ q := fun b hb h => by
    obtain ⟨k0, hk0, -⟩ := wl_get (iv := iv) (jv := jv) hb
    have hlt : k0 < (wl G iv jv).length := (List.getElem?_eq_some_iff.mp hk0).1
    have h1 : (wl G iv jv ++ [(q, ee)])[k0]? = some (G.ad b, pE G iv jv b) := by rw [List.getElem?_append_left hlt]; exact hk0
    have := hD.1 _ _ _ _ h1 hlen h
    omega
  refine ⟨g1, g2, ?_, hS, add_ok hok hn hq hN, fun b hb => ?_, hA⟩
  · rw [wl_add hn hok.2.2, ← he]; exact hP
  · rcases List.mem_append.mp hb with h1 | h1
    · have hne : b ≠ n := fun h => hn (h ▸ h1)
      rw [show (G.add n q N).ad b = G.ad b from va_up_ne _ _ hne]
      exact hLA b h1
    · rw [List.mem_singleton] at h1; subst h1
      rw [add_s.1]
      exact hD.2 _ _ hlen
theorem cy_eq {ty : FieldType} {cA : ClassId} {t0 : Nat} (hK : va_K D vwCl (tysC cy) s) (hK2 : va_K D vwCl (tysC cy ++ [(cA, ty)]) s) (ht : (tysC cy)[t0]? = some (cy (t0 + 12), ty)) (hf : ∀ c1 c2 : ClassId, va_RA s c1 ty → va_RA s c2 ty → c1 = c2) : cA = cy (t0 + 12) :=
  hf _ _ (hK2.2 (tysC cy).length (cA, ty) (by simp)).2 (hK.2 _ _ ht).2
theorem rg_newI {atype : ArrayType} {ty : FieldType} (hty : newarray.typeOf atype = ty) (hE : EN p c s m args cc own D cy z A) (hH : HS D cy G A H0 iv jv H locs) (n : Nat) (hn : n ∉ G.L) (hk : G.kd n = ci) (hc3 : (ci = 12 ∧ ty = .byte) ∨ (ci = 13 ∧ ty = .int) ∨ (ci = 15 ∧ ty = .boolean)) {N : Nat} (hN : N ≤ 1000000) (hcells : cells + 1 ≤ R.cells) (hslots : slots + N ≤ R.slots) (hd : decode cc pc = .ok (.newarray atype, 2))
    (kk : ∀ (G1 : GW) (H1 : Heap), GX G G1 [n] noP → G1.ln n = N → (∀ j, G1.rv n j = none) → HS D cy G1 A H0 (clr iv n 0) (clr jv n 0) H1 locs → W p l e R s m args below meth c H1 locs (cells + 1) (slots + N) Q (F0 m (pc + 2) ls (.ref (G1.ad n) :: rest))) : W p l e R s m args below meth c H locs cells slots Q (F0 m pc ls (.int (nI N) :: rest)) := by
  have hD := hs_D hH
  have hH0 := hH
  obtain ⟨hx, hb, hown, hts, hK, hZ⟩ := hE
  obtain ⟨g1, g2, hP, hS, hok, hLA, hA⟩ := hH
  subst hty
  have harr : (Cond.arrayClass (newarray.typeOf atype)).before args s = true := by
    rcases hc3 with ⟨-, h⟩ | ⟨-, h⟩ | ⟨-, h⟩ <;> rw [h]
    · exact hts _ (b1 72 rfl rfl)
    · exact hts _ (b1 73 rfl rfl)
    · exact hts _ (b3 75 rfl rfl)
  refine va_newa (D := D) (cl := vwCl) (a0 := (N, .inl (fun _ => 0))) hx hb harr rfl hK hP hD hS hA (N' := N) (fun cA => by
    rcases hc3 with ⟨-, h⟩ | ⟨-, h⟩ | ⟨-, h⟩ <;> rw [h] <;> rfl) (nI_pos (by omega)) (clamp_nI (by omega)) (by
    rcases hc3 with ⟨-, h⟩ | ⟨-, h⟩ | ⟨-, h⟩ <;> rw [h]
    · show N * 1 ≤ _; omega
    · show N * 4 ≤ _; omega
    · show N * 1 ≤ _; omega) hcells hslots hd (fun q cA H1 hK2 hP1 hD1 hS1 => ?_)
  have hcA : cA = G.cy ci := by
    rw [g2]
    rcases hc3 with ⟨h1, h⟩ | ⟨h1, h⟩ | ⟨h1, h⟩ <;> subst h1 <;> rw [h] at hK2
    · exact cy_eq (t0 := 0) hK hK2 rfl (fun c1 c2 a b => Option.some.inj ((va_nm_byte a).symm.trans (va_nm_byte b)))
    · exact cy_eq (t0 := 1) hK hK2 rfl (fun c1 c2 a b => Option.some.inj ((va_nm_int a).symm.trans (va_nm_int b)))
    · exact cy_eq (t0 := 3) hK hK2 rfl (fun c1 c2 a b => Option.some.inj ((va_nm_boolean a).symm.trans (va_nm_boolean b)))
  have hs1 := hs_add (N := N) hH0 hn (by omega) hP1 hD1 hS1 (by
    rw [pE_i (G := G.add n q N) hk (by omega), hcA, add_s.2.1]
    have : clr iv n (0 : Int32) n = fun _ => 0 := funext fun j => clr_s
    rw [this]; rfl)
  have h := kk _ _ add_GX add_s.2.1 add_s.2.2.1 hs1
  rw [add_s.1] at h
  exact h
theorem rg_newJ (hE : EN p c s m args cc own D cy z A) (hH : HS D cy G A H0 iv jv H locs) (n : Nat) (hn : n ∉ G.L) (hk : G.kd n = 14) {N : Nat} (hN : N ≤ 1000000) (hcells : cells + 1 ≤ R.cells) (hslots : slots + N ≤ R.slots) (hd : decode cc pc = .ok (.newarray .long, 2))
    (kk : ∀ (G1 : GW) (H1 : Heap), GX G G1 [n] noP → G1.ln n = N → (∀ j, G1.rv n j = none) → HS D cy G1 A H0 (clr iv n 0) (clr jv n 0) H1 locs → W p l e R s m args below meth c H1 locs (cells + 1) (slots + N) Q (F0 m (pc + 2) ls (.ref (G1.ad n) :: rest))) : W p l e R s m args below meth c H locs cells slots Q (F0 m pc ls (.int (nI N) :: rest)) := by
  have hD := hs_D hH
  have hH0 := hH
  obtain ⟨hx, hb, hown, hts, hK, hZ⟩ := hE
  obtain ⟨g1, g2, hP, hS, hok, hLA, hA⟩ := hH
  have harr : (Cond.arrayClass (newarray.typeOf .long)).before args s = true := hts (.arrayClass .long) (b1 74 rfl rfl)
  refine va_newa (D := D) (cl := vwCl) (atype := .long) (ty := .long) (a0 := (N, .inr (.inl (fun _ => 0)))) hx hb harr rfl hK hP hD hS hA (N' := N) (fun cA => rfl) (nI_pos (by omega)) (clamp_nI (by omega)) (by show N * 8 ≤ _; omega) hcells hslots hd (fun q cA H1 hK2 hP1 hD1 hS1 => ?_)
  have hcA : cA = G.cy 14 := by
    rw [g2]
    exact cy_eq (t0 := 2) hK hK2 rfl (fun c1 c2 a b => Option.some.inj ((va_nm_long a).symm.trans (va_nm_long b)))
  have hs1 := hs_add (N := N) hH0 hn (by omega) hP1 hD1 hS1 (by
    rw [pE_j (G := G.add n q N) hk, hcA, add_s.2.1]
    have : clr jv n (0 : Int64) n = fun _ => 0 := funext fun j => clr_s
    rw [this]; rfl)
  have h := kk _ _ add_GX add_s.2.1 add_s.2.2.1 hs1
  rw [add_s.1] at h
  exact h
/-- an array of objects: kinds 16 (Column), 17 (Program), 18 (Table) -/
def MQa (own : String) (idx ci : Nat) : Prop := ∃ C : String, Cond.classLink own idx C ∈ bw ∧ Cond.arrayOver (.object C) ∈ nwL ∧ ((ci = 16 ∧ C = RX0) ∨ (ci = 17 ∧ C = RX5) ∨ (ci = 18 ∧ C = RX7))
theorem rg_newQ (hE : EN p c s m args cc own D cy z A) (hH : HS D cy G A H0 iv jv H locs) (n : Nat) (hn : n ∉ G.L) (hk : G.kd n = ci) (hw : MQa own idx ci) {N : Nat} (hN : N ≤ 1000000) (hcells : cells + 1 ≤ R.cells) (hslots : slots + N ≤ R.slots) (hd : decode cc pc = .ok (.anewarray idx, 3))
    (kk : ∀ (G1 : GW) (H1 : Heap), GX G G1 [n] noP → G1.ln n = N → (∀ j, G1.rv n j = none) → HS D cy G1 A H0 (clr iv n 0) (clr jv n 0) H1 locs → W p l e R s m args below meth c H1 locs (cells + 1) (slots + N) Q (F0 m (pc + 3) ls (.ref (G1.ad n) :: rest))) : W p l e R s m args below meth c H locs cells slots Q (F0 m pc ls (.int (nI N) :: rest)) := by
  have hD := hs_D hH
  have hH0 := hH
  obtain ⟨hx, hb, hown, hts, hK, hZ⟩ := hE
  obtain ⟨g1, g2, hP, hS, hok, hLA, hA⟩ := hH
  obtain ⟨C, w1, w2, hC⟩ := hw
  refine va_newq (D := D) (cl := vwCl) hx hb hown (hts _ w1) (hZ.2.2.2.2.2.2.1 _ w2) hK hP hD hS hA (N' := N) (nI_pos (by omega)) (clamp_nI (by omega)) (by omega) hcells hslots hd (fun q cA H1 hK2 hP1 hD1 hS1 => ?_)
  have hcA : cA = G.cy ci := by
    rw [g2]
    rcases hC with ⟨h1, h⟩ | ⟨h1, h⟩ | ⟨h1, h⟩ <;> subst h1 <;> subst h
    · exact cy_eq (t0 := 4) hK hK2 rfl (fun c1 c2 a b => Option.some.inj ((va_nmO a rfl).symm.trans (va_nmO b rfl)))
    · exact cy_eq (t0 := 5) hK hK2 rfl (fun c1 c2 a b => Option.some.inj ((va_nmO a rfl).symm.trans (va_nmO b rfl)))
    · exact cy_eq (t0 := 6) hK hK2 rfl (fun c1 c2 a b => Option.some.inj ((va_nmO a rfl).symm.trans (va_nmO b rfl)))
  have hs1 := hs_add (N := N) hH0 hn (by omega) hP1 hD1 hS1 (by
    rw [pE_r (G := G.add n q N) hk (by omega), hcA, add_s.2.1]
    have : (fun j => ((G.add n q N).rv n j).map (G.add n q N).ad) = fun _ => none := funext fun j => by rw [add_s.2.2.1 j]; rfl
    rw [this]; rfl)
  have h := kk _ _ add_GX add_s.2.1 add_s.2.2.1 hs1
  rw [add_s.1] at h
  exact h
/-- a new object -/
def MO (own : String) (idx ci : Nat) : Prop := ∃ (C : String) (T : u_T), vwCl[ci]? = some (C, T, nsl ci) ∧ Cond.classLink own idx C ∈ bw ∧ Cond.instantiable C (nsl ci) ∈ bw ∧ Cond.initialized C ∈ bw
theorem rg_newO (hE : EN p c s m args cc own D cy z A) (hH : HS D cy G A H0 iv jv H locs) (n : Nat) (hn : n ∉ G.L) (hk : G.kd n = ci) (hC : CF ci) (hw : MO own idx ci) (hcells : cells + 1 ≤ R.cells) (hslots : slots + nsl ci ≤ R.slots) (hd : decode cc pc = .ok (.new idx, 3))
    (kk : ∀ (G1 : GW) (H1 : Heap), GX G G1 [n] noP → G1.ln n = 0 → (∀ j, G1.rv n j = none) → HS D cy G1 A H0 (clr iv n 0) (clr jv n 0) H1 locs → W p l e R s m args below meth c H1 locs (cells + 1) (slots + nsl ci) Q (F0 m (pc + 3) ls (.ref (G1.ad n) :: rest))) : W p l e R s m args below meth c H locs cells slots Q (F0 m pc ls rest) := by
  have hD := hs_D hH
  have hH0 := hH
  obtain ⟨hx, hb, hown, hts, hK, hZ⟩ := hE
  obtain ⟨g1, g2, hP, hS, hok, hLA, hA⟩ := hH
  obtain ⟨hc12, C, T, ty0, hc, hin, hty, hnm, hst⟩ := hC
  obtain ⟨C', T', hc', w1, w2, w3⟩ := hw
  cases hc.symm.trans hc'
  have hfs : ∀ j, j < nsl ci → defaultValue (ty0 j) = vp_V ((List.range (nsl ci)).map (fun k => match sty ci k with | 0 => Value.int 0 | 1 => .long 0 | _ => .null)) j := fun j hj => by
    have h1 := hst j hj
    rw [show vp_V ((List.range (nsl ci)).map (fun k => match sty ci k with | 0 => Value.int 0 | 1 => .long 0 | _ => .null)) j = (match sty ci j with | 0 => Value.int 0 | 1 => .long 0 | _ => .null) by
      unfold vp_V; rw [List.getD_eq_getElem?_getD, List.getElem?_map, List.getElem?_range hj]; rfl]
    have h2 : sty ci j ≤ 2 := sty_le ci j
    rcases (show sty ci j = 0 ∨ sty ci j = 1 ∨ sty ci j = 2 by omega) with h | h | h
    · rw [h, h1.1 h]; rfl
    · rw [h, h1.2.1 h]; rfl
    · rw [h]
      rcases h1.2.2 h with ⟨n, e⟩ | ⟨t, e⟩ <;> rw [e] <;> rfl
  refine va_new (D := D) (cl := vwCl) hx hb hts hin ty0 hty hown (hts _ w1) (hts _ w2) (hts _ w3) hK hP hD hS hA hc hfs hcells hslots hd (fun q H1 hP1 hD1 hS1 => ?_)
  have hs1 := hs_add (N := 0) hH0 hn (by omega) hP1 hD1 hS1 (by
    rw [pE_o (G := G.add n q 0) hk hc12]
    congr 2
    apply List.map_congr_left
    intro k _
    unfold pV
    rw [clr_s, clr_s, add_s.2.2.1 k]
    have h2 : sty ci k ≤ 2 := sty_le ci k
    rcases (show sty ci k = 0 ∨ sty ci k = 1 ∨ sty ci k = 2 by omega) with h | h | h <;> rw [h] <;> rfl)
  have h := kk _ _ add_GX add_s.2.1 add_s.2.2.1 hs1
  rw [add_s.1] at h
  exact h
/-- the constructor of Object -/
theorem rg_obj {st : List Value} {b : Addr} (hE : EN p c s m args cc own D cy z A) (hw : Cond.methodLink own idx Lib.objectInit ∈ bw ∧ Cond.instanceMethod Lib.objectInit ∈ bw ∧ Cond.code Lib.objectInit ⟨#[0xb1]⟩ 1 none ∈ bw) (hml : c.maxLocals = k) (hsz : ls.size = k) (hst : st = .ref b :: rest) (hd : decode cc pc = .ok (.invokespecial idx, 3)) (hf : 1 ≤ R.frames) (hl : (rest.map fun v => v.category).sum + 12 ≤ R.locals)
    (kk : W p l e R s m args below meth c H locs cells slots Q (F0 m (pc + 3) ls rest)) : W p l e R s m args below meth c H locs cells slots Q (F0 m pc ls st) :=
  W.objInit hE.1 hE.2.1 hE.2.2.1 (hE.2.2.2.1 _ hw.1) (hE.2.2.2.1 _ hw.2.1) (hE.2.2.2.1 _ hw.2.2) (g := F0 m pc ls st) rfl (hsz.trans hml.symm) hst hd hf (by show 2 * 0 + _ + 12 ≤ _; omega) kk
end NW1
theorem vD_nodup {A : Nat → Prop} {ws : va_W} (h : va_D A ws) : (ws.map (fun x => x.1)).Nodup := by
  rw [List.nodup_iff_pairwise_ne, List.pairwise_iff_getElem]
  intro i j hi hj hij he
  simp only [List.length_map] at hi hj
  rw [List.getElem_map, List.getElem_map] at he
  have := h.1 i j _ _ (List.getElem?_eq_getElem hi) (List.getElem?_eq_getElem hj) he
  omega
def clrs {α : Type} (f : Nat → Nat → α) (a N : Nat) (n : Nat) (v : α) : Nat → Nat → α := fun b j => if b = n ∨ (a ≤ b ∧ b < a + N) then v else f b j
def GW.addM (G : GW) (n n1 N K q : Nat) (r : Nat → Nat) : GW := (G.D, G.cy, G.L ++ (n :: (List.range N).map (fun i => n1 + i)), G.kd, (fun b => if b = n then N else if n1 ≤ b ∧ b < n1 + N then K else G.ln b), (fun b j => if b = n then (if j < N then some (n1 + j) else none) else if n1 ≤ b ∧ b < n1 + N then none else G.rv b j), (fun b => if b = n then q else if n1 ≤ b ∧ b < n1 + N then r (b - n1) else G.ad b))
section NW2
variable {p : Program} {l : Launch} {e : Env} {R : Room} {s : State} {m : MethodId} {args : Array Value} {below : List Frame} {meth : Method} {c : Code} {H : Heap} {locs : List Loc} {cells slots : Nat} {Q : State → Prop}
variable {cc : ByteArray} {pc : Nat} {ls : Array Slot} {rest : List Value} {D : va_G} {cy : Nat → ClassId} {G : GW} {A : Nat → Prop} {H0 : Heap} {iv : IV} {jv : JV} {own : String} {lb ci k idx : Nat} {z : ZK}
theorem mem_inn {n n1 N b : Nat} : b ∈ (n :: (List.range N).map (fun i => n1 + i)) ↔ b = n ∨ (n1 ≤ b ∧ b < n1 + N) := by
  rw [List.mem_cons, List.mem_map]
  constructor
  · rintro (h | ⟨i, hi, rfl⟩)
    · exact Or.inl h
    · have := List.mem_range.mp hi; exact Or.inr ⟨by omega, by omega⟩
  · rintro (h | ⟨h1, h2⟩)
    · exact Or.inl h
    · exact Or.inr ⟨b - n1, List.mem_range.mpr (by omega), by omega⟩
theorem addM_GX {n n1 N K q : Nat} {r : Nat → Nat} : GX G (G.addM n n1 N K q r) (n :: (List.range N).map (fun i => n1 + i)) noP := by
  refine ⟨rfl, rfl, rfl, rfl, fun b hb => ?_, fun b j hb _ => ?_⟩
  · rw [mem_inn, not_or] at hb
    exact ⟨by show (if b = n then q else if n1 ≤ b ∧ b < n1 + N then r (b - n1) else G.ad b) = _; rw [if_neg hb.1, if_neg hb.2], by show (if b = n then N else if n1 ≤ b ∧ b < n1 + N then K else G.ln b) = _; rw [if_neg hb.1, if_neg hb.2]⟩
  · rw [mem_inn, not_or] at hb
    show (if b = n then (if j < N then some (n1 + j) else none) else if n1 ≤ b ∧ b < n1 + N then none else G.rv b j) = _
    rw [if_neg hb.1, if_neg hb.2]
theorem rg_newM (hE : EN p c s m args cc own D cy z A) (hH : HS D cy G A H0 iv jv H locs) (n n1 : Nat) {N K : Nat} (hn : n ∉ G.L) (hn1 : ∀ i, i < N → n1 + i ∉ G.L) (hd1 : n < n1 ∨ n1 + N ≤ n) (hk : G.kd n = 19) (hk1 : ∀ i, i < N → G.kd (n1 + i) = 13) (hw : Cond.classLink own idx "[[I" ∈ bw) (hN : N ≤ 1000) (hK1 : K ≤ 100000) (hcells : cells + (1 + N) ≤ R.cells) (hslots : slots + (N + N * K) ≤ R.slots) (hd : decode cc pc = .ok (.multianewarray idx 2, 4))
    (kk : ∀ (G1 : GW) (H1 : Heap), GX G G1 (n :: (List.range N).map (fun i => n1 + i)) noP → G1.ln n = N → (∀ i, i < N → G1.ln (n1 + i) = K ∧ G1.rv n i = some (n1 + i)) → HS D cy G1 A H0 (clrs iv n1 N n 0) (clrs jv n1 N n 0) H1 locs → W p l e R s m args below meth c H1 locs (cells + 1 + N) (slots + N + N * K) Q (F0 m (pc + 4) ls (.ref (G1.ad n) :: rest))) : W p l e R s m args below meth c H locs cells slots Q (F0 m pc ls (.int (nI K) :: .int (nI N) :: rest)) := by
  have hD := hs_D hH
  obtain ⟨hx, hb, hown, hts, hK, hZ⟩ := hE
  obtain ⟨g1, g2, hP, hS, hok, hLA, hA⟩ := hH
  have hI := va_nm_int (hK.2 1 _ rfl).2
  have hpl : wl G iv jv ++ va_pl [] (fun _ => .inr (0, [])) = wl G iv jv := List.append_nil _
  refine va_mna (D := D) (cl := vwCl) (X := wl G iv jv) (L := []) (f := fun _ => .inr (0, [])) (ty := .int) (cy := cy 13) (z := (K, .inl (fun _ => 0))) hx hb hown (hts _ hw) (hZ.2.2.2.2.2.2.1 (.arrayOver (.array .int)) (nb3 29 rfl rfl)) (hts _ (b1 73 rfl rfl)) hI hK (by rw [hpl]; exact hP) (by rw [hpl]; exact hD) hS hA (N' := N) (K' := K) (nI_pos (by omega)) (nI_pos (by omega)) (clamp_nI (by omega)) (clamp_nI (by omega)) (by omega) (by show K * 4 ≤ _; omega) (by omega) rfl rfl hcells hslots (fun c => by
    show ({ cls := c, slots := Array.replicate K (Value.int 0), vm := .none } : Cell) = _
    rw [arrV_new]; rfl) hd (fun q r cA H1 hr1 hr2 hK2 hP1 hD1 hS1 => ?_)
  have hcA : cA = cy 19 := cy_eq (t0 := 7) hK hK2 rfl (fun c1 c2 a b => Option.some.inj (Eq.trans (Eq.symm a) b))
  rw [List.nil_append] at hP1 hD1
  have hnot : ∀ b ∈ G.L, ¬ b = n ∧ ¬ (n1 ≤ b ∧ b < n1 + N) := fun b hb => ⟨fun h => hn (h ▸ hb), fun h => hn1 (b - n1) (by omega) (by rw [show n1 + (b - n1) = b by omega]; exact hb)⟩
  have hX := addM_GX (G := G) (n := n) (n1 := n1) (N := N) (K := K) (q := q) (r := r)
  have hadO : ∀ b ∈ G.L, (G.addM n n1 N K q r).ad b = G.ad b := fun b hb => hX.ad (by rw [mem_inn, not_or]; exact hnot b hb)
  have hadN : (G.addM n n1 N K q r).ad n = q := if_pos rfl
  have hadI : ∀ i, i < N → (G.addM n n1 N K q r).ad (n1 + i) = r i := fun i hi => by
    show (if n1 + i = n then q else if n1 ≤ n1 + i ∧ n1 + i < n1 + N then r (n1 + i - n1) else G.ad (n1 + i)) = _
    rw [if_neg (by omega), if_pos (by omega), Nat.add_sub_cancel_left]
  have hlnN : (G.addM n n1 N K q r).ln n = N := if_pos rfl
  have hlnI : ∀ i, i < N → (G.addM n n1 N K q r).ln (n1 + i) = K := fun i hi => by
    show (if n1 + i = n then N else if n1 ≤ n1 + i ∧ n1 + i < n1 + N then K else G.ln (n1 + i)) = _
    rw [if_neg (by omega), if_pos (by omega)]
  have hrvN : ∀ j, (G.addM n n1 N K q r).rv n j = if j < N then some (n1 + j) else none := fun j => if_pos rfl
  have hwl : wl (G.addM n n1 N K q r) (clrs iv n1 N n 0) (clrs jv n1 N n 0) = (wl G iv jv ++ [(q, .inl (cA, N, .inr (.inr (.inr (.inr (fun i => if i < N then some (r i) else none))))))]) ++ va_pl ((List.range N).map r) (vr_up (fun _ => .inr (0, [])) ((List.range N).map r) (.inl (cy 13, (K, .inl (fun _ => 0))))) := by
    show (G.L ++ (n :: (List.range N).map (fun i => n1 + i))).map _ = _
    rw [List.map_append, List.append_assoc]
    congr 1
    · apply List.map_congr_left
      intro b hb
      have hb1 := hnot b hb
      have e0 : (G.addM n n1 N K q r).ln b = G.ln b := hX.ln (by rw [mem_inn, not_or]; exact hb1) rfl
      have e1 : ∀ j, ((G.addM n n1 N K q r).rv b j).map (G.addM n n1 N K q r).ad = (G.rv b j).map G.ad := fun j => by
        rw [hX.rv (by rw [mem_inn, not_or]; exact hb1) (fun h => h) rfl]
        cases hc : G.rv b j with
        | none => rfl
        | some c => simp only [Option.map_some]; rw [hadO c (hok.2.2 b hb j c hc)]
      have e3 : clrs iv n1 N n (0 : Int32) b = iv b := funext fun j => if_neg (by rw [not_or]; exact hb1)
      have e4 : clrs jv n1 N n (0 : Int64) b = jv b := funext fun j => if_neg (by rw [not_or]; exact hb1)
      have e2 : ∀ ci, pV (G.addM n n1 N K q r) (clrs iv n1 N n 0) (clrs jv n1 N n 0) b ci = pV G iv jv b ci := fun ci => funext fun j => by
        unfold pV
        rw [e3, e4, e1 j]
      rw [hadO b hb]
      simp only [pE, e0, e2, e3, e4, e1]
      rfl
    · rw [List.map_cons, hadN, pE_r (G := G.addM n n1 N K q r) (ci := 19) hk (by decide), hlnN]
      have e5 : (fun j => ((G.addM n n1 N K q r).rv n j).map (G.addM n n1 N K q r).ad) = fun i => if i < N then some (r i) else none := funext fun j => by
        rw [hrvN j]
        by_cases hj : j < N
        · rw [if_pos hj, if_pos hj, Option.map_some, hadI j hj]
        · rw [if_neg hj, if_neg hj]; rfl
      rw [e5, hcA, show (G.addM n n1 N K q r).cy = cy from g2]
      show _ :: _ = _ :: _
      congr 1
      unfold va_pl
      rw [List.map_map, List.map_map]
      apply List.map_congr_left
      intro i hi
      have hi := List.mem_range.mp hi
      show ((G.addM n n1 N K q r).ad (n1 + i), pE (G.addM n n1 N K q r) (clrs iv n1 N n 0) (clrs jv n1 N n 0) (n1 + i)) = (r i, vr_up _ _ _ (r i))
      rw [hadI i hi, vr_up_in (List.mem_map.mpr ⟨i, List.mem_range.mpr hi, rfl⟩), pE_i (G := G.addM n n1 N K q r) (ci := 13) (hk1 i hi) (by decide), hlnI i hi, show (G.addM n n1 N K q r).cy = cy from g2]
      have : clrs iv n1 N n (0 : Int32) (n1 + i) = fun _ => 0 := funext fun j => if_pos (Or.inr ⟨by omega, by omega⟩)
      rw [this]
  have hnd : ((G.addM n n1 N K q r).L.map (G.addM n n1 N K q r).ad).Nodup := by
    have h := vD_nodup hD1
    rw [← hwl] at h
    have e : (wl (G.addM n n1 N K q r) (clrs iv n1 N n 0) (clrs jv n1 N n 0)).map (fun x => x.1) = (G.addM n n1 N K q r).L.map (G.addM n n1 N K q r).ad := by unfold wl; rw [List.map_map]; rfl
    rw [e] at h
    exact h
  have hmem : ∀ b, b ∈ (G.addM n n1 N K q r).L → b ∈ G.L ∨ b = n ∨ ∃ i, i < N ∧ b = n1 + i := fun b hb => by
    rcases List.mem_append.mp hb with h | h
    · exact Or.inl h
    · rcases mem_inn.mp h with h | h
      · exact Or.inr (Or.inl h)
      · exact Or.inr (Or.inr ⟨b - n1, by omega, by omega⟩)
  refine (fun h => by rw [hadN] at h; exact h) (kk (G.addM n n1 N K q r) H1 hX hlnN (fun i hi => ⟨hlnI i hi, by rw [hrvN, if_pos hi]⟩) ⟨g1, g2, by rw [hwl]; exact hP1, hS1, ⟨hnd, fun b hb => ?_, fun b hb j c hc => ?_⟩, fun b hb => ?_, hA⟩)
  · rcases hmem b hb with h | h | ⟨i, hi, h⟩
    · rw [hX.ln (by rw [mem_inn, not_or]; exact hnot b h) rfl]; exact hok.2.1 b h
    · rw [h, hlnN]; omega
    · rw [h, hlnI i hi]; omega
  · rcases hmem b hb with h | h | ⟨i, hi, h⟩
    · rw [hX.rv (by rw [mem_inn, not_or]; exact hnot b h) (fun h => h) rfl] at hc
      exact hX.mem (hok.2.2 b h j c hc)
    · rw [h, hrvN] at hc
      split at hc
      · rename_i hj
        cases hc
        exact hX.new (mem_inn.mpr (Or.inr ⟨by omega, by omega⟩))
      · cases hc
    · exfalso
      have : (G.addM n n1 N K q r).rv b j = none := by
        show (if b = n then (if j < N then some (n1 + j) else none) else if n1 ≤ b ∧ b < n1 + N then none else G.rv b j) = none
        rw [if_neg (by omega), if_pos (by omega)]
      rw [this] at hc; cases hc
  · obtain ⟨k0, hk0, -⟩ := wl_get (iv := clrs iv n1 N n 0) (jv := clrs jv n1 N n 0) hb
    rw [hwl] at hk0
    exact hD1.2 _ _ hk0
end NW2
