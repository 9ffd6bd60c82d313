/-! ===== the class: numbers of words ===== -/
def eN (w : Wd) : Nat := w.foldl (fun s b => 256 * s + b) 0
def enc (w : Wd) : Int64 := Int64.ofNat (eN w)
theorem eN_app {w : Wd} {b : Nat} : eN (w ++ [b]) = 256 * eN w + b := by simp [eN]
def nz (w : Wd) : Prop := ∀ b ∈ w, 1 ≤ b ∧ b < 256
theorem nz_app {w : Wd} {b : Nat} (h : nz (w ++ [b])) : nz w ∧ 1 ≤ b ∧ b < 256 := ⟨fun x hx => h x (List.mem_append_left _ hx), h b (by simp)⟩
theorem eN_inj : ∀ (k : Nat) (u w : Wd), u.length ≤ k → nz u → nz w → eN u = eN w → u = w := by
  intro k
  induction k with
  | zero =>
    intro u w hu hnu hnw h
    have : u = [] := List.length_eq_zero_iff.mp (by omega)
    subst this
    rcases List.eq_nil_or_concat w with rfl | ⟨w', b, rfl⟩
    · rfl
    · rw [List.concat_eq_append, eN_app] at h
      rw [List.concat_eq_append] at hnw
      have := (nz_app hnw).2
      have h0 : eN [] = 0 := rfl
      omega
  | succ k ih =>
    intro u w hu hnu hnw h
    rcases List.eq_nil_or_concat u with rfl | ⟨u', a, rfl⟩
    · rcases List.eq_nil_or_concat w with rfl | ⟨w', b, rfl⟩
      · rfl
      · rw [List.concat_eq_append, eN_app] at h
        rw [List.concat_eq_append] at hnw
        have := (nz_app hnw).2
        have h0 : eN [] = 0 := rfl
        omega
    · rw [List.concat_eq_append] at *
      have ha := nz_app hnu
      rcases List.eq_nil_or_concat w with rfl | ⟨w', b, rfl⟩
      · rw [eN_app] at h
        have h0 : eN [] = 0 := rfl
        omega
      · rw [List.concat_eq_append] at *
        have hb := nz_app hnw
        rw [eN_app, eN_app] at h
        have e1 : a = b := by omega
        have e2 : eN u' = eN w' := by omega
        rw [ih u' w' (by simp at hu; omega) ha.1 hb.1 e2, e1]
theorem eN_lt : ∀ (k : Nat) (w : Wd), w.length ≤ k → nz w → eN w < 256 ^ k := by
  intro k
  induction k with
  | zero =>
    intro w hw hn
    have : w = [] := List.length_eq_zero_iff.mp (by omega)
    subst this
    decide
  | succ k ih =>
    intro w hw hn
    rcases List.eq_nil_or_concat w with rfl | ⟨w', b, rfl⟩
    · show 0 < 256 ^ (k + 1)
      exact Nat.pow_pos (by decide)
    · rw [List.concat_eq_append] at *
      have hb := nz_app hn
      have := ih w' (by simp at hw; omega) hb.1
      rw [eN_app, Nat.pow_succ]
      omega
theorem wOK_nz {w : Wd} (h : wOK w) : nz w := fun c hc => by
  obtain ⟨j, hj, rfl⟩ := (mem_getD (d := 0)).mp hc
  have := h.2.2 j hj
  simp only [isWS, Bool.or_eq_true, Bool.and_eq_true, decide_eq_true_eq] at this
  omega
theorem ofN_inj {a b : Nat} (ha : a < 2 ^ 64) (hb : b < 2 ^ 64) : Int64.ofNat a = Int64.ofNat b ↔ a = b := by
  constructor
  · intro h
    have h1 := congrArg (fun x => x.toBitVec.toNat) h
    have e : ∀ n : Nat, (Int64.ofNat n).toBitVec.toNat = n % 2 ^ 64 := fun n => by
      show (BitVec.ofNat 64 n).toNat = _
      rw [BitVec.toNat_ofNat]
    simp only [e] at h1
    rw [Nat.mod_eq_of_lt ha, Nat.mod_eq_of_lt hb] at h1
    exact h1
  · rintro rfl; rfl
theorem enc_inj {u w : Wd} (hu : u.length ≤ 8 ∧ nz u) (hw : w.length ≤ 8 ∧ nz w) : enc u = enc w ↔ u = w := by
  have h1 := eN_lt 8 u hu.1 hu.2
  have h2 := eN_lt 8 w hw.1 hw.2
  unfold enc
  rw [ofN_inj (Nat.lt_of_lt_of_le h1 (by decide)) (Nat.lt_of_lt_of_le h2 (by decide))]
  exact ⟨fun h => eN_inj 8 u w hu.1 hu.2 hw.2 h, fun h => by rw [h]⟩
theorem wOK_e {w : Wd} (h : wOK w) : w.length ≤ 8 ∧ nz w := ⟨h.1, wOK_nz h⟩
theorem enc_s {x b : Nat} (hb : b < 256) : (Int64.ofNat x <<< ((nI 8).toInt64 &&& 63)) ||| (nI b).toInt64 = Int64.ofNat (256 * x + b) := by
  have e1 : (nI b).toInt64 = Int64.ofNat b := nI_l (by omega)
  have e2 : ((nI 8).toInt64 &&& 63) = 8 := by decide
  rw [e1, e2]
  apply Int64.toBitVec_inj.mp
  rw [Int64.toBitVec_or, Int64.toBitVec_shiftLeft]
  apply BitVec.eq_of_toNat_eq
  have n1 : (Int64.ofNat x).toBitVec.toNat = x % 2 ^ 64 := by show (BitVec.ofNat 64 x).toNat = _; rw [BitVec.toNat_ofNat]
  have n2 : (Int64.ofNat b).toBitVec.toNat = b := by show (BitVec.ofNat 64 b).toNat = _; rw [BitVec.toNat_ofNat, Nat.mod_eq_of_lt (by omega)]
  have n3 : (Int64.ofNat (256 * x + b)).toBitVec.toNat = (256 * x + b) % 2 ^ 64 := by show (BitVec.ofNat 64 _).toNat = _; rw [BitVec.toNat_ofNat]
  have n4 : ((8 : Int64).toBitVec.smod 64) = 8#64 := by decide
  rw [BitVec.toNat_or, n2, n3, n4, BitVec.shiftLeft_eq', BitVec.toNat_shiftLeft, n1]
  have n5 : (8#64).toNat = 8 := by decide
  rw [n5, Nat.shiftLeft_eq]
  have n6 : (x % 2 ^ 64 * 2 ^ 8) % 2 ^ 64 = (x % 2 ^ 56) * 2 ^ 8 := by omega
  rw [n6, ← Nat.shiftLeft_eq, ← Nat.shiftLeft_add_eq_or_of_lt (by omega), Nat.shiftLeft_eq]
  omega
def lc (x y : Int64) : Int32 := if x > y then 1 else if x = y then 0 else -1
theorem lc_0 {x y : Int64} : lc x y = 0 ↔ x = y := by
  unfold lc
  split
  · rename_i h
    refine ⟨fun h1 => absurd h1 (by decide), fun h1 => ?_⟩
    subst h1
    exact absurd h (Int64.lt_irrefl)
  · split
    · rename_i h; simp [h]
    · rename_i h; exact ⟨fun h1 => absurd h1 (by decide), fun h1 => absurd h1 h⟩
section LC
variable {p : Program} {l : Launch} {e : Env} {R : Room} {s : State} {m : MethodId} {args : Array Value} {below : List Frame} {meth : Method} {c : Code} {H : Heap} {locs : List Loc} {cells slots : Nat} {Q : State → Prop}
variable {cc : ByteArray} {pc : Nat} {ls : Array Slot} {rest : List Value}
theorem lv_lcmp (hexec : p.tables.exec = Jvm.exec) (hb : c.code = cc) {x y : Int64} (hdg : decode cc pc = .ok (.lcmp, 1)) (k : W p l e R s m args below meth c H locs cells slots Q (F0 m (pc + 1) ls (.int (lc x y) :: rest))) : W p l e R s m args below meth c H locs cells slots Q (F0 m pc ls (.long y :: .long x :: rest)) := by
  intro T hT X
  obtain ⟨t, a, b⟩ := k T hT X
  refine ⟨t, ?_, b⟩
  unfold lc at a
  by_cases h1 : x > y
  · rw [if_pos h1] at a
    jvm_step X.here [X.here.top, hexec, hb, hdg, h1]
    exact a
  · rw [if_neg h1] at a
    by_cases h2 : x = y
    · rw [if_pos h2] at a
      jvm_step X.here [X.here.top, hexec, hb, hdg, h1, h2]
      exact a
    · rw [if_neg h2] at a
      jvm_step X.here [X.here.top, hexec, hb, hdg, h1, h2]
      exact a
end LC
/-! kinds of TOKENS in the class -/
def kdT (B : Nat → Nat) (t : Tok) : Nat := if tk t = 0 then 15 else if tk t = 1 then (if 8 < te t - tb t then 14 else if wd B t = sW 20 then 1 else if wd B t = sW 19 then 2 else if wd B t = sW 21 then 3 else if wd B t = sW 22 then 4 else if wd B t = sW 23 then 5 else if wd B t = sW 24 then 6 else if wd B t = sW 25 then 7 else 0) else if tk t = 2 then (if ts t = 256 then 13 else if ts t = 42 then 8 else if ts t = 47 then 9 else if ts t = 33 then 10 else if ts t = 59 then 11 else if ts t = 58 then 12 else 16) else 16
def encT (B : Nat → Nat) (t : Tok) : Int64 := if tk t = 1 then enc (wd B t) else 0
def wkd (w : Wd) : Nat := if w = sW 20 then 1 else if w = sW 19 then 2 else if w = sW 21 then 3 else if w = sW 22 then 4 else if w = sW 23 then 5 else if w = sW 24 then 6 else if w = sW 25 then 7 else 0
theorem kdT_0 {B : Nat → Nat} {t : Tok} (h : tk t = 0) : kdT B t = 15 := by rw [kdT, if_pos h]
theorem kdT_1 {B : Nat → Nat} {t : Tok} (h : tk t = 1) : kdT B t = if 8 < te t - tb t then 14 else wkd (wd B t) := by rw [kdT, if_neg (by omega), if_pos h]; rfl
def skd (c : Nat) : Nat := if c = 256 then 13 else if c = 42 then 8 else if c = 47 then 9 else if c = 33 then 10 else if c = 59 then 11 else if c = 58 then 12 else 16
theorem kdT_2 {B : Nat → Nat} {t : Tok} (h : tk t = 2) : kdT B t = skd (ts t) := by rw [kdT, if_neg (by omega), if_neg (by omega), if_pos h]; rfl
theorem kdT_3 {B : Nat → Nat} {t : Tok} (h : tk t = 3) : kdT B t = 16 := by rw [kdT, if_neg (by omega), if_neg (by omega), if_neg (by omega)]
theorem wkd_k : wkd (sW 20) = 1 ∧ wkd (sW 19) = 2 ∧ wkd (sW 21) = 3 ∧ wkd (sW 22) = 4 ∧ wkd (sW 23) = 5 ∧ wkd (sW 24) = 6 ∧ wkd (sW 25) = 7 := by decide +kernel
theorem wkd_le (w : Wd) : wkd w ≤ 7 := by unfold wkd; split <;> (try split) <;> (try split) <;> (try split) <;> (try split) <;> (try split) <;> (try split) <;> omega
theorem wkd_0 {w : Wd} : wkd w = 0 ↔ w ∉ kws := by
  simp only [kws, List.mem_cons, List.not_mem_nil, or_false, not_or]
  unfold wkd
  constructor
  · intro h
    refine ⟨?_, ?_, ?_, ?_, ?_, ?_, ?_⟩ <;> intro h2 <;> subst h2 <;> revert h <;> decide +kernel
  · rintro ⟨h1, h2, h3, h4, h5, h6, h7⟩
    rw [if_neg h1, if_neg h2, if_neg h3, if_neg h4, if_neg h5, if_neg h6, if_neg h7]
theorem wkd_eq {w : Wd} {k i : Nat} (h : (k, i) ∈ [(1, 20), (2, 19), (3, 21), (4, 22), (5, 23), (6, 24), (7, 25)]) : wkd w = k ↔ w = sW i := by
  have hk := wkd_k
  constructor
  · intro h1
    have hn : w ∈ kws := Classical.byContradiction fun h2 => by
      rw [wkd_0.mpr h2] at h1
      subst h1
      revert h; simp
    simp only [kws, List.mem_cons, List.not_mem_nil, or_false] at hn
    simp only [List.mem_cons, List.not_mem_nil, or_false, Prod.mk.injEq] at h
    rcases hn with rfl | rfl | rfl | rfl | rfl | rfl | rfl <;> simp only [hk] at h1 <;> rcases h with ⟨h, rfl⟩ | ⟨h, rfl⟩ | ⟨h, rfl⟩ | ⟨h, rfl⟩ | ⟨h, rfl⟩ | ⟨h, rfl⟩ | ⟨h, rfl⟩ <;> first | rfl | (exfalso; omega)
  · rintro rfl
    simp only [List.mem_cons, List.not_mem_nil, or_false, Prod.mk.injEq] at h
    rcases h with ⟨rfl, rfl⟩ | ⟨rfl, rfl⟩ | ⟨rfl, rfl⟩ | ⟨rfl, rfl⟩ | ⟨rfl, rfl⟩ | ⟨rfl, rfl⟩ | ⟨rfl, rfl⟩ <;> simp only [hk]
theorem kw_len : ∀ i, i < 30 → 19 ≤ i → i ≤ 25 → sLen i ≤ 8 := by decide +kernel
theorem skd_ge (c : Nat) : 8 ≤ skd c ∧ skd c ≤ 16 ∧ skd c ≠ 14 ∧ skd c ≠ 15 := by unfold skd; split <;> (try split) <;> (try split) <;> (try split) <;> (try split) <;> (try split) <;> omega
theorem kd_kw {B : Nat → Nat} {n : Nat} {t : Tok} {k i : Nat} (hv : TV B n t) (h : (k, i) ∈ [(1, 20), (2, 19), (3, 21), (4, 22), (5, 23), (6, 24), (7, 25)]) : kdT B t = k ↔ kwP B t i = true := by
  have hk3 := (TV_b hv).2.2.2.2.1
  have hk7 : 1 ≤ k ∧ k ≤ 7 ∧ 19 ≤ i ∧ i ≤ 25 := by
    simp only [List.mem_cons, List.not_mem_nil, or_false, Prod.mk.injEq] at h; omega
  simp only [kwP, decide_eq_true_eq]
  rcases (show tk t = 0 ∨ tk t = 1 ∨ tk t = 2 ∨ tk t = 3 by omega) with h0 | h0 | h0 | h0
  · rw [kdT_0 h0]; omega
  · rw [kdT_1 h0]
    constructor
    · intro h1
      split at h1
      · omega
      · exact ⟨h0, (wkd_eq h).mp h1⟩
    · rintro ⟨-, h1⟩
      have h8 := kw_len i (by omega) hk7.2.2.1 hk7.2.2.2
      have := wd_len (B := B) (t := t)
      rw [h1, sW_len i (by omega)] at this
      rw [if_neg (by omega)]
      exact (wkd_eq h).mpr h1
  · rw [kdT_2 h0]; have := skd_ge (ts t); omega
  · rw [kdT_3 h0]; omega
theorem kd_sg {B : Nat → Nat} {n : Nat} {t : Tok} {k c : Nat} (hv : TV B n t) (h : (k, c) ∈ [(8, 42), (9, 47), (10, 33), (11, 59), (12, 58), (13, 256)]) : kdT B t = k ↔ tk t = 2 ∧ ts t = c := by
  have hk3 := (TV_b hv).2.2.2.2.1
  simp only [List.mem_cons, List.not_mem_nil, or_false, Prod.mk.injEq] at h
  rcases (show tk t = 0 ∨ tk t = 1 ∨ tk t = 2 ∨ tk t = 3 by omega) with h0 | h0 | h0 | h0
  · rw [kdT_0 h0]; omega
  · rw [kdT_1 h0]
    have := wkd_le (wd B t)
    split <;> omega
  · rw [kdT_2 h0]
    unfold skd
    split <;> (try split) <;> (try split) <;> (try split) <;> (try split) <;> (try split) <;> omega
  · rw [kdT_3 h0]; omega
theorem kd_end {B : Nat → Nat} {n : Nat} {t : Tok} (hv : TV B n t) : kdT B t = 15 ↔ tk t = 0 := by
  have hk3 := (TV_b hv).2.2.2.2.1
  rcases (show tk t = 0 ∨ tk t = 1 ∨ tk t = 2 ∨ tk t = 3 by omega) with h0 | h0 | h0 | h0
  · rw [kdT_0 h0]; omega
  · rw [kdT_1 h0]
    have := wkd_le (wd B t)
    split <;> omega
  · rw [kdT_2 h0]; have := skd_ge (ts t); omega
  · rw [kdT_3 h0]; omega
theorem kd_fr {B : Nat → Nat} {n : Nat} {t : Tok} (hv : TV B n t) : frF B t = if kdT B t = 14 then 2 else if kdT B t = 0 then 0 else 1 := by
  have hk3 := (TV_b hv).2.2.2.2.1
  rcases (show tk t = 0 ∨ tk t = 1 ∨ tk t = 2 ∨ tk t = 3 by omega) with h0 | h0 | h0 | h0
  · rw [kdT_0 h0, fb_1 (Or.inl (by omega))]; rfl
  · rw [kdT_1 h0]
    by_cases h8 : 8 < te t - tb t
    · rw [if_pos h8, if_pos rfl]
      refine fb_2 h0 (fun hm => ?_) h8
      have : ∀ w ∈ kws, w.length ≤ 8 := by decide +kernel
      have := this _ hm
      rw [wd_len] at this
      omega
    · rw [if_neg h8]
      have := wkd_le (wd B t)
      rw [if_neg (by omega)]
      by_cases hm : wd B t ∈ kws
      · rw [if_neg (fun h => wkd_0.mp h hm), fb_1 (Or.inr hm)]
      · rw [if_pos (wkd_0.mpr hm), fb_0 h0 hm (by omega)]
  · rw [kdT_2 h0, fb_1 (Or.inl (by omega))]
    have := skd_ge (ts t)
    rw [if_neg (by omega), if_neg (by omega)]
  · rw [kdT_3 h0, fb_1 (Or.inl (by omega))]; rfl
theorem kdT_le {B : Nat → Nat} {n : Nat} {t : Tok} (hv : TV B n t) : kdT B t ≤ 16 := by
  have hk3 := (TV_b hv).2.2.2.2.1
  rcases (show tk t = 0 ∨ tk t = 1 ∨ tk t = 2 ∨ tk t = 3 by omega) with h0 | h0 | h0 | h0
  · rw [kdT_0 h0]; omega
  · rw [kdT_1 h0]; have := wkd_le (wd B t); split <;> omega
  · rw [kdT_2 h0]; have := skd_ge (ts t); omega
  · rw [kdT_3 h0]; omega
/-! bytes in the class's tape -/
def sbI (b : Nat) : Int32 := if b < 128 then nI b else nI b - nI 256
theorem sb_eq : ∀ b, b < 256 → ∀ c, c < 128 → (sbI b = nI c ↔ b = c) := by
  intro b hb c hc
  unfold sbI
  split
  · rw [nI_eq (by omega) (by omega)]
  · rename_i h
    refine ⟨fun h1 => ?_, fun h1 => by omega⟩
    exfalso
    have : ∀ b, b < 256 → ¬ b < 128 → (nI b - nI 256) < 0 := by decide +kernel
    have h2 := this b hb h
    rw [h1] at h2
    exact nI_pos (by omega) h2
theorem ws_sb : ∀ b, b < 256 → wsI (sbI b) = isWS b := by decide +kernel
def tkN (B : Nat → Nat) (n : Nat) : Nat → Tok
  | 0 => tokAt B n 0
  | k + 1 => nx B n (tkN B n k)
theorem tkN_tv {B : Nat → Nat} {n : Nat} : ∀ k, TV B n (tkN B n k)
  | 0 => TV_at (Nat.zero_le _)
  | k + 1 => TV_nx (tkN_tv k)
theorem tkN_end {B : Nat → Nat} {n K : Nat} (h : tk (tkN B n K) = 0) : ∀ k, tk (tkN B n (K + k)) = 0
  | 0 => h
  | k + 1 => by
    have ih := tkN_end h k
    have := ((TV_b (tkN_tv (B := B) (n := n) (K + k))).2.2.2.1 ih).2
    show tk (tokAt B n (te (tkN B n (K + k)))) = 0
    rw [this, tokAt, rowE_end (Nat.le_refl _), tok_end (Nat.le_refl _)]
    rfl
def LXT (iv : IV) (jv : JV) (B : Nat → Nat) (n K : Nat) : Prop := ∀ j, j < K → iv 104 j = nI (kdT B (tkN B n j)) ∧ iv 105 j = nI (tb (tkN B n j)) ∧ jv 106 j = encT B (tkN B n j)
def LX (iv : IV) (jv : JV) (B : Nat → Nat) (n : Nat) : Prop := ∃ K, K ≤ 1000 ∧ tk (tkN B n K) = 0 ∧ iv 103 3 = nI (K + 1) ∧ LXT iv jv B n (K + 1)
/-- the class's reader looks at the TOKEN t -/
def LR (iv : IV) (jv : JV) (B : Nat → Nat) (n : Nat) (t : Tok) : Prop := LX iv jv B n ∧ n ≤ 1000 ∧ ∃ k, k ≤ 1000 ∧ tkN B n k = t ∧ iv 103 4 = nI k ∧ iv 103 5 = nI (kdT B t) ∧ iv 103 6 = nI (tb t) ∧ jv 103 7 = encT B t
def FrJ (jv jv' : JV) (P : Nat → Nat → Prop) : Prop := ∀ lb j, ¬ P lb j → jv' lb j = jv lb j
theorem FrJ.rf {iv : JV} {P : Nat → Nat → Prop} : FrJ iv iv P := fun _ _ _ => rfl
theorem FrJ.tr {a b d : JV} {P : Nat → Nat → Prop} (h1 : FrJ a b P) (h2 : FrJ b d P) : FrJ a d P := fun lb j h => (h2 lb j h).trans (h1 lb j h)
theorem FrJ.mono {a b : JV} {P P' : Nat → Nat → Prop} (h1 : FrJ a b P) (h : ∀ lb j, P lb j → P' lb j) : FrJ a b P' := fun lb j hn => h1 lb j (fun hp => hn (h lb j hp))
theorem FrJ.up {a b : JV} {P : Nat → Nat → Prop} {lb k : Nat} {v : Int64} (h1 : FrJ a b P) (h : P lb k) : FrJ a (up2 b lb k v) P := fun l2 j hn => by
  by_cases e1 : l2 = lb
  · subst e1
    by_cases e2 : j = k
    · subst e2; exact absurd h hn
    · rw [up2_k e2]; exact h1 l2 j hn
  · rw [up2_l e1]; exact h1 l2 j hn
theorem LR.tv {iv : IV} {jv : JV} {B : Nat → Nat} {n : Nat} {t : Tok} (h : LR iv jv B n t) : TV B n t := by
  obtain ⟨-, -, k, -, rfl, -⟩ := h; exact tkN_tv k
theorem LX.fr {iv iv' : IV} {jv jv' : JV} {B : Nat → Nat} {n : Nat} {P Q : Nat → Nat → Prop} (h : LX iv jv B n) (hF : Fr iv iv' P) (hJ : FrJ jv jv' Q) (h3 : ¬ P 103 3) (h4 : ∀ j, ¬ P 104 j) (h5 : ∀ j, ¬ P 105 j) (h6 : ∀ j, ¬ Q 106 j) : LX iv' jv' B n := by
  obtain ⟨K, hK, hT, h1, h2⟩ := h
  exact ⟨K, hK, hT, (hF _ _ h3).trans h1, fun j hj => ⟨(hF _ _ (h4 j)).trans (h2 j hj).1, (hF _ _ (h5 j)).trans (h2 j hj).2.1, (hJ _ _ (h6 j)).trans (h2 j hj).2.2⟩⟩
theorem LR.fr {iv iv' : IV} {jv jv' : JV} {B : Nat → Nat} {n : Nat} {t : Tok} {P Q : Nat → Nat → Prop} (h : LR iv jv B n t) (hF : Fr iv iv' P) (hJ : FrJ jv jv' Q) (h3 : ∀ j, ¬ P 103 j) (h4 : ∀ j, ¬ P 104 j) (h5 : ∀ j, ¬ P 105 j) (h6 : ∀ j, ¬ Q 106 j) (h7 : ¬ Q 103 7) : LR iv' jv' B n t := by
  obtain ⟨hX, hn, k, hk, ht, g1, g2, g3, g4⟩ := h
  exact ⟨hX.fr hF hJ (h3 3) h4 h5 h6, hn, k, hk, ht, (hF _ _ (h3 4)).trans g1, (hF _ _ (h3 5)).trans g2, (hF _ _ (h3 6)).trans g3, (hJ _ _ h7).trans g4⟩
/-! the class's things -/
def isPx (G : GW) : Prop := (102 ∈ G.L ∧ G.kd 102 = 4) ∧ (103 ∈ G.L ∧ G.kd 103 = 2) ∧ (104 ∈ G.L ∧ G.kd 104 = 13 ∧ G.ln 104 = 1001) ∧ (105 ∈ G.L ∧ G.kd 105 = 13 ∧ G.ln 105 = 1001) ∧ (106 ∈ G.L ∧ G.kd 106 = 14 ∧ G.ln 106 = 1001) ∧ (101 ∈ G.L ∧ G.kd 101 = 12 ∧ G.ln 101 = 1000) ∧ G.rv 102 0 = some 103 ∧ G.rv 103 0 = some 104 ∧ G.rv 103 1 = some 105 ∧ G.rv 103 2 = some 106
def isCo (G : GW) (c : Nat) : Prop := (c ∈ G.L ∧ G.kd c = 0) ∧ (c + 1 ∈ G.L ∧ G.kd (c + 1) = 14 ∧ G.ln (c + 1) = 6) ∧ G.rv c 2 = some (c + 1)
def isRo (G : GW) (r : Nat) : Prop := (r ∈ G.L ∧ G.kd r = 6) ∧ (r + 1 ∈ G.L ∧ G.kd (r + 1) = 13 ∧ G.ln (r + 1) = 200) ∧ (r + 2 ∈ G.L ∧ G.kd (r + 2) = 13 ∧ G.ln (r + 2) = 40) ∧ G.rv r 1 = some (r + 1) ∧ G.rv r 2 = some (r + 2)
def isLa (G : GW) (b : Nat) : Prop := (b ∈ G.L ∧ G.kd b = 1) ∧ (b + 1 ∈ G.L ∧ G.kd (b + 1) = 16 ∧ G.ln (b + 1) = 5) ∧ (∀ i, i < 6 → isCo G (b + 10 + 2 * i)) ∧ isRo G (b + 30) ∧ G.rv b 2 = some (b + 1) ∧ (∀ i, i < 5 → G.rv (b + 1) i = some (b + 10 + 2 * i)) ∧ G.rv b 3 = some (b + 20) ∧ G.rv b 4 = some (b + 30)
/-- the words of a Column -/
def CV (iv : IV) (jv : JV) (c : Nat) (vs : List Wd) : Prop := iv c 1 = nI vs.length ∧ vs.length ≤ 6 ∧ (∀ v, v < vs.length → jv (c + 1) v = enc (vs.getD v [])) ∧ ∀ w ∈ vs, wOK w
theorem CV.fr {iv iv' : IV} {jv jv' : JV} {c : Nat} {vs : List Wd} {P Q : Nat → Nat → Prop} (h : CV iv jv c vs) (hF : Fr iv iv' P) (hJ : FrJ jv jv' Q) (h1 : ¬ P c 1) (h2 : ∀ v, ¬ Q (c + 1) v) : CV iv' jv' c vs :=
  ⟨(hF _ _ h1).trans h.1, h.2.1, fun v hv => (hJ _ _ (h2 v)).trans (h.2.2.1 v hv), h.2.2.2⟩
