/-! ===== OUT in the class; PROGRAMS; counting on ===== -/
theorem eN_dig {w : Wd} : ∀ (n : Nat), w.length = n → nz w → ∀ m, eN w / 256 ^ m % 256 = w.reverse.getD m 0 := by
  intro n
  induction n generalizing w with
  | zero =>
    intro h _ m
    have : w = [] := List.eq_nil_of_length_eq_zero h
    subst this
    simp [eN]
  | succ n ih =>
    intro h hz m
    obtain ⟨u, b, rfl⟩ : ∃ u b, w = u ++ [b] := ⟨w.dropLast, w.getLast (by intro h2; rw [h2] at h; cases h), (List.dropLast_concat_getLast _).symm⟩
    have hu := nz_app hz
    rw [eN_app, List.reverse_append]
    cases m with
    | zero => simp; omega
    | succ m =>
      rw [Nat.pow_succ, Nat.mul_comm (256 ^ m) 256, ← Nat.div_div_eq_div_mul]
      rw [show (256 * eN u + b) / 256 = eN u by omega, ih (by simpa using h) hu.1 m]
      simp
theorem sh8 {N s : Nat} (hN : N < 18446744073709551616) (c : UInt64) (hc : c.toNat = s) (hs : s < 64) : ((Int64.ofNat N).toUInt64 >>> c).toInt64.toInt32 &&& nI 255 = nI (N / 2 ^ s % 256) := by
  have h1 : (((Int64.ofNat N).toUInt64 >>> c).toInt64.toInt32).toBitVec.toNat = N / 2 ^ s % 4294967296 := by
    show ((((Int64.ofNat N).toUInt64 >>> c).toBitVec).signExtend 32).toNat = _
    rw [BitVec.signExtend_eq_setWidth_of_le _ (by decide)]
    rw [BitVec.toNat_setWidth]
    congr 1
    show ((Int64.ofNat N).toUInt64 >>> c).toNat = _
    rw [UInt64.toNat_shiftRight, hc, Nat.mod_eq_of_lt hs, Nat.shiftRight_eq_div_pow]
    congr 1
    show (BitVec.ofNat 64 N).toNat = N
    rw [BitVec.toNat_ofNat, Nat.mod_eq_of_lt hN]
  apply Int32.toBitVec_inj.mp
  apply BitVec.eq_of_toNat_eq
  rw [Int32.toBitVec_and, BitVec.toNat_and, h1]
  show N / 2 ^ s % 4294967296 &&& 255 = (BitVec.ofNat 32 (N / 2 ^ s % 256)).toNat
  rw [BitVec.toNat_ofNat]
  have := Nat.and_two_pow_sub_one_eq_mod (N / 2 ^ s % 4294967296) 8
  rw [show (2:Nat) ^ 8 - 1 = 255 by decide] at this
  rw [this]
  omega
theorem shk : ∀ k, k < 8 → ((nI (56 - 8 * k)).toInt64.toUInt64 &&& Int64.toUInt64 63).toNat = 56 - 8 * k ∧ (2 : Nat) ^ (56 - 8 * k) = 256 ^ (7 - k) := by decide +kernel
theorem word_sg {w : Wd} (h : wOK w) {k : Nat} (hk : k < 8) : ((enc w).toUInt64 >>> ((nI (56 - 8 * k)).toInt64.toUInt64 &&& Int64.toUInt64 63)).toInt64.toInt32 &&& nI 255 = nI (w.reverse.getD (7 - k) 0) := by
  have h1 := shk k hk
  have hl := eN_lt 8 w h.1 (wOK_nz h)
  rw [enc, sh8 (by simpa using hl) _ h1.1 (by omega), h1.2, eN_dig _ rfl (wOK_nz h)]
def shI (k : Nat) : Int32 := if k < 8 then nI (56 - 8 * k) else -8
theorem shI_n : ∀ k, k < 9 → (shI k < 0 ↔ k = 8) := by decide +kernel
theorem shI_s : ∀ k, k < 8 → shI k + (-8) = shI (k + 1) := by decide +kernel
theorem shI_k {k : Nat} (h : k < 8) : shI k = nI (56 - 8 * k) := by unfold shI; rw [if_pos h]
theorem rev_7 {w : Wd} (h : wOK w) {m : Nat} : w.reverse.getD m 0 < 128 := by
  by_cases hm : m < w.reverse.length
  · exact wOK_7 h _ (List.mem_reverse.mp (mem_getD' hm))
  · rw [List.getD_eq_getElem?_getD, List.getElem?_eq_none (by omega)]; decide
theorem wtk_0 {w : Wd} (h : wOK w) {k : Nat} (hk : k < 8) (h0 : w.reverse.getD (7 - k) 0 = 0) : w.take (k + 1 - (8 - w.length)) = w.take (k - (8 - w.length)) := by
  have h8 := h.1
  by_cases hm : 7 - k < w.length
  · exfalso
    have := wOK_nz h (w.reverse.getD (7 - k) 0) (List.mem_reverse.mp (mem_getD' (by rw [List.length_reverse]; exact hm)))
    omega
  · rw [show k + 1 - (8 - w.length) = 0 by omega, show k - (8 - w.length) = 0 by omega]
theorem wtk_s {w : Wd} (h : wOK w) {k : Nat} (hk : k < 8) (h0 : w.reverse.getD (7 - k) 0 ≠ 0) : w.take (k + 1 - (8 - w.length)) = w.take (k - (8 - w.length)) ++ [w.reverse.getD (7 - k) 0] := by
  have h8 := h.1
  by_cases hm : 7 - k < w.length
  · rw [show k + 1 - (8 - w.length) = (k - (8 - w.length)) + 1 by omega, take_s (by omega)]
    congr 2
    rw [List.getD_eq_getElem?_getD, List.getD_eq_getElem?_getD, List.getElem?_reverse hm]
    congr 2
    omega
  · exfalso
    apply h0
    rw [List.getD_eq_getElem?_getD, List.getElem?_eq_none (by rw [List.length_reverse]; omega)]; rfl
theorem b128 : ∀ c, c < 128 → vp_nar .byte ((nI c).toInt8.toInt32) = nI c := by decide +kernel
def isOu (G : GW) : Prop := (109 ∈ G.L ∧ G.kd 109 = 3) ∧ isA G 110 12 2000 ∧ G.rv 109 0 = some 110
def cOu (iv : IV) (o : List Nat) : Prop := iv 109 1 = nI o.length ∧ o.length < 1000000 ∧ ∀ k, k < o.length → k < 2000 → iv 110 k = nI (o.getD k 0) ∧ o.getD k 0 < 128
abbrev pOt : Nat → Nat → Prop := fun lb j => (lb = 109 ∧ j = 1) ∨ lb = 110
theorem cOu.add {iv : IV} {o : List Nat} {c : Nat} (h : cOu iv o) (hl : o.length + 1 < 1000000) (hc : c < 128) {iv' : IV} (h0 : iv' 109 1 = nI (o.length + 1)) (h1 : ∀ k, k ≠ o.length → iv' 110 k = iv 110 k) (h2 : o.length < 2000 → iv' 110 o.length = nI c) : cOu iv' (o ++ [c]) := by
  refine ⟨by rw [List.length_append]; exact h0, by rw [List.length_append]; exact hl, fun k hk hk2 => ?_⟩
  by_cases hko : k < o.length
  · rw [getD_app_lt hko, h1 k (by omega)]; exact h.2.2 k hko hk2
  · have : k = o.length := by rw [List.length_append, List.length_singleton] at hk; omega
    subst this
    rw [getD_app_eq]; exact ⟨h2 hk2, hc⟩
theorem sLen_W : ∀ i, i < 30 → sLen i = (sW i).length := by decide +kernel
theorem sB_W : ∀ i, i < 30 → ∀ j, j < sLen i → sB i j = (sW i).getD j 0 ∧ sB i j < 128 := by decide +kernel
theorem sW_cls : sW 11 ++ sW 13 = sW 26 ∧ sW 12 = sW 27 ∧ sW 14 = sW 28 ∧ sW 11 ++ sW 16 = sW 29 ++ [10] ∧ sW 15 = [10] ∧ (sW 11).length = 3 ∧ (sW 12).length = 5 ∧ (sW 13).length = 1 ∧ (sW 14).length = 4 ∧ (sW 15).length = 1 ∧ (sW 16).length = 8 := by decide +kernel
def cAc (tab : Tab) (q i : Nat) : List Nat := if tcI tab q i = [] then sW 11 else tcI tab q i
theorem cAc_0 {tab : Tab} {q : Nat} : cAc tab q 0 = sW 11 := if_pos rfl
theorem cAc_n {tab : Tab} {q i : Nat} (h : tAt tab q i = none) : cAc tab q (i + 1) = cAc tab q i := by unfold cAc; rw [tcI_n h]
theorem cAc_s {tab : Tab} {q i v : Nat} (h : tAt tab q i = some v) : cAc tab q (i + 1) = cAc tab q i ++ sW (if tcI tab q i = [] then 13 else 12) ++ (tab.1.getD i dC0).1 ++ sW 14 ++ (tab.1.getD i dC0).2.getD v [] := by
  unfold cAc
  rw [if_neg (tcI_ne h), tcI_s h]
  split
  · rename_i h1
    rw [h1, List.nil_append, sW_cls.1.symm, sW_cls.2.2.1]
  · rename_i h1
    rw [sW_cls.2.1, sW_cls.2.2.1]
    simp only [List.append_assoc]
theorem cAc_e {tab : Tab} {q v : Nat} : tab.2.1.getD v [] ++ cAc tab q (tm tab) ++ sW (if tcI tab q (tm tab) = [] then 16 else 15) = tLn tab (q, v) := by
  unfold tLn cAc
  dsimp only
  split
  · rename_i h1
    rw [List.append_assoc, sW_cls.2.2.2.1, List.append_assoc]
  · rw [sW_cls.2.2.2.2.1]
theorem cAc_len {tab : Tab} (hW : tabW tab) (hk : tabOK tab) {q i : Nat} (hi : i ≤ tm tab) : (cAc tab q i).length ≤ 3 + 25 * i := by
  have := tcI_len hW hk (t := q) i hi
  have h := sW_cls.2.2.2.2.2.1
  unfold cAc
  split <;> omega
/-! PROGRAMS -/
def isPg (G : GW) (p t C : Nat) : Prop := (p ∈ G.L ∧ G.kd p = 5) ∧ isA G (p + 1) 13 C ∧ G.rv p 0 = some t ∧ G.rv p 1 = some (p + 1)
def wmk (tab : Tab) (g : Prg) (c : Nat) : Nat → Nat → Bool := fun k i => wmI g.1 (g.2.1.getD k (0, 0)).1 i (vOf (tf tab) (tm tab) c i) (wto g k - (g.2.1.getD k (0, 0)).1)
theorem WHc.msk {iv : IV} {w : Nat} {tab : Tab} {g : Prg} (h : WHc iv w tab g) (hk : tabOK tab) {c k : Nat} (hkl : k < g.2.1.length) : msk iv (w + 1) (tm tab) (vOf (tf tab) (tm tab) c) k (wmk tab g c k) := fun i hi => by
  obtain ⟨a, h1, h2, h3⟩ := (h.1.2.2 k hkl).1 i hi
  have := hk.2.2.1 i hi
  exact ⟨a, h1, h2, h3 _ (Nat.mod_lt _ (by omega))⟩
theorem WHc.fr {iv iv' : IV} {w : Nat} {tab : Tab} {g : Prg} {P : Nat → Nat → Prop} (h : WHc iv w tab g) (hm : tm tab ≤ 5) (hF : Fr iv iv' P) (h0 : ∀ lb j, w ≤ lb → lb ≤ w + 3 → ¬ P lb j) : WHc iv' w tab g :=
  ⟨h.1.fr hm hF (h0 _ _ (by omega) (by omega)) (fun j _ => h0 _ _ (by omega) (by omega)) (fun k _ => h0 _ _ (by omega) (by omega)), (hF _ _ (h0 _ _ (by omega) (by omega))).trans h.2⟩
theorem fnd_c {p q : Nat → Bool} : ∀ {n : Nat}, (∀ k, k < n → p k = q k) → fnd p n = fnd q n
  | 0, _ => rfl
  | n + 1, h => by rw [fnd_s, fnd_s, fnd_c (fun k hk => h k (by omega)), h n (by omega)]
theorem wmk_fnd {tab : Tab} {g : Prg} (hg : prgOK tab g) {c : Nat} : fnF (fun k => allI (wmk tab g c k) (tm tab)) 0 g.2.1.length = fnd (fun w => wh tab g c w) g.2.1.length := by
  rw [fnF_0]
  exact fnd_c (fun k hk => (wh_all hg hk).symm)
/-! counting on -/
theorem qt_dn {f : Nat → Nat} {m c d : Nat} : ∀ (n i : Nat), i + n ≤ m → qt f (i + n) m c = qt f (i + n) m d → qt f i m c = qt f i m d
  | 0, _, _, h => h
  | n + 1, i, hi, h => by
    have h2 : qt f (i + 1 + n) m c = qt f (i + 1 + n) m d := by rw [show i + 1 + n = i + (n + 1) by omega]; exact h
    have ih := qt_dn n (i + 1) (by omega) h2
    rw [qt_p m c (by omega), qt_p m d (by omega), ih]
theorem step_y {f : Nat → Nat} {m c i : Nat} (hi : i < m) (hf : 0 < f i) (hq : qt f (i + 1) m (c + 1) = qt f (i + 1) m c + 1) (h : vOf f m c i + 1 < f i) : vOf f m (c + 1) i = vOf f m c i + 1 ∧ ∀ k, k < i → vOf f m (c + 1) k = vOf f m c k := by
  rw [vOf_qt] at h
  have e := dm_same hf h
  refine ⟨by rw [vOf_qt, vOf_qt, hq, e.2], fun k hk => ?_⟩
  have e2 : qt f i m (c + 1) = qt f i m c := by rw [qt_p m _ hi, qt_p m _ hi, hq, e.1]
  have e3 := qt_dn (f := f) (m := m) (c := c + 1) (d := c) (i - (k + 1)) (k + 1) (by omega) (by rw [show k + 1 + (i - (k + 1)) = i by omega]; exact e2)
  rw [vOf_qt, vOf_qt, e3]
theorem step_n {f : Nat → Nat} {m c i : Nat} (hi : i < m) (hf : 0 < f i) (hq : qt f (i + 1) m (c + 1) = qt f (i + 1) m c + 1) (h : ¬ vOf f m c i + 1 < f i) : vOf f m (c + 1) i = 0 ∧ qt f i m (c + 1) = qt f i m c + 1 := by
  rw [vOf_qt] at h
  have e := dm_carry hf h
  exact ⟨by rw [vOf_qt, hq, e.2], by rw [qt_p m _ hi, qt_p m _ hi, hq, e.1]⟩
theorem dwn_m {m : Nat} (h : 1 ≤ m) : nI (m - 1) = dwn m := by
  obtain ⟨k, rfl⟩ : ∃ k, m = k + 1 := ⟨m - 1, by omega⟩
  rfl
section NC
variable {p : Program} {l : Launch} {e : Env} {R : Room} {s : State} {m : MethodId} {args : Array Value} {below : List Frame} {meth : Method} {c : Code} {H : Heap} {locs : List Loc} {cells slots : Nat} {Q : State → Prop}
variable {cc : ByteArray} {pc : Nat} {ls : Array Slot} {rest : List Value} {D : va_G} {cy : Nat → ClassId} {G : GW} {A : Nat → Prop} {iv : IV} {jv : JV} {own : String} {lb ci k idx : Nat} {z : ZK}
variable {y : MethodName} {c2 : ByteArray} {nL nL0 n fr lo mc ms : Nat} {rt : Option FieldType} {As st : List Value}
theorem rg_NV {post : GW → IV → JV → Prop} (hE : EN p c s m args cc own D cy z A) (hml : c.maxLocals = nL0) (hH : HS D cy G A s.heap iv jv H locs) (hw : MN own idx y c2 nL rt n) (hM : cV l z y c2 nL rt fr lo mc ms As G iv jv post) (hst : st = As.reverse ++ rest) (hR : fr + 1 ≤ R.frames ∧ 8 + (nL + 11) + lo ≤ R.locals) (hn : As.length = n) (hsz : ls.size = nL0) (hr8 : (rest.map fun v => v.category).sum ≤ 8) (hd : decode cc pc = .ok (.invokestatic idx, 3)) (hf : cells + mc ≤ R.cells ∧ slots + ms ≤ R.slots) (kk : ∀ (G' : GW) (iv' : IV) (jv' : JV) (H1 : Heap) (locs1 : List Loc), post G' iv' jv' → HS D cy G' A s.heap iv' jv' H1 locs1 → W p l e R s m args below meth c H1 locs1 (cells + mc) (slots + ms) Q (F0 m (pc + 3) ls (rest))) : W p l e R s m args below meth c H locs cells slots Q (F0 m pc ls (st)) := by
  subst hst
  exact rg_backV hE hH (rg_runN hE hml hH hw (hM H.size) hR hn hsz hr8 hd hf) kk
end NC
theorem nb3 {w : Cond} (i : Nat) (h : tables_1_3[i]? = some w) (g : nwk w = true) : w ∈ nwL := List.mem_filter.mpr ⟨List.mem_append_right _ (List.mem_append_right _ (List.mem_append_right _ (List.mem_append_left _ (List.mem_of_getElem? h)))), g⟩
theorem mc_X7_100 : MN RX7 100 yX10_stepOn cX10_stepOn 3 none 2 := ⟨⟨_, nb3 160 rfl rfl⟩, (b3 161 rfl rfl), (b1 1 rfl rfl), (b3 162 rfl rfl), by decide, by decide, by decide +kernel⟩
theorem mc_X8_54 : MN RX8 54 yX10_stepOn cX10_stepOn 3 none 2 := ⟨⟨_, nb3 205 rfl rfl⟩, (b3 161 rfl rfl), (b1 1 rfl rfl), (b3 162 rfl rfl), by decide, by decide, by decide +kernel⟩
theorem rU_s {tab : Tab} {v : Nat} : (ruleU tab (v + 1)).map (fun x => x.1) = (ruleU tab v).map (fun x => x.1) ++ tka tab v 400 (fun _ => false) := by
  rw [ruleU, List.map_append, List.map_map]
  rw [show ((fun x : Nat × Nat => x.1) ∘ fun t => (t, v)) = id from rfl, List.map_id]
  rfl
