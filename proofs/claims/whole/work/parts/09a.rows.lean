theorem nb2 {w : Cond} (i : Nat) (h : tables_1_2[i]? = some w) (g : nwk w = true) : w ∈ nwL := List.mem_filter.mpr ⟨List.mem_append_right _ (List.mem_append_right _ (List.mem_append_left _ (List.mem_of_getElem? h))), g⟩
theorem nb4 {w : Cond} (i : Nat) (h : tables_1_4[i]? = some w) (g : nwk w = true) : w ∈ nwL := List.mem_filter.mpr ⟨List.mem_append_right _ (List.mem_append_right _ (List.mem_append_right _ (List.mem_append_right _ (List.mem_append_left _ (List.mem_of_getElem? h))))), g⟩
/-! ===== methods with handlers that don't throw ===== -/
theorem ofWH {l : Launch} {y : MethodName} {ws ws' : List Cond} {rm : Room} {Pc : Array Value → State → Prop} {Qc : Array Value → State → Outcome → State → Prop} {mc ms : Nat} {free : Addr → Prop} {cc : ByteArray} {maxL : Nat} {ret : Option FieldType} {hh : List (Nat × Nat × Nat × Nat)}
    (hy : plainName y.cls = true) (hw : ws = Cond.codeWith y cc maxL ret hh :: ws')
    (body : ∀ p e s m args below meth c s₁, BodyLoose p l y (headSpec ws rm) cc maxL ret e s m args below meth c s₁ → c.maxLocals = maxL → Pc args s →
      W p l e (headSpec ws rm).room s m args below meth c s.heap [] 0 0 (MQ below Qc args s mc ms free) (entryFrame m args maxL)) : Met l y ws rm Pc Qc mc ms free := by
  refine MetFree.of_bodyS (code := cc) (maxLocals := maxL) (ret := ret) hy ?_ ?_
  · intro args s m h hn
    obtain ⟨m9, meth, c, hn9, h1, h2, h3, h4, -, h5, h6, -⟩ := Cond.codeWith_spec (atoms_spec (ws := ws) h _ (by rw [hw]; exact List.mem_cons_self))
    cases hn.symm.trans hn9
    exact ⟨meth, c, h1, h2, h3, h4, h5, h6⟩
  · intro p e s m args below meth c s₁ B hml hP _
    have hh0 : s₁.heap = s.heap := by rw [B.state]; rfl
    obtain ⟨t, a1, o, b1, b2, b3⟩ := body p e s m args below meth c s₁ B hml hP s₁ hh0 (Stand.of_body B)
    exact ⟨t, o, a1, b1, b2, b3⟩
def cH (l : Launch) (z : ZK) (y : MethodName) (cc : ByteArray) (nL : Nat) (rt : Option FieldType) (hh : List (Nat × Nat × Nat × Nat)) (fr lo mc ms : Nat) (av : List Value) (G : GW) (iv : IV) (jv : JV) (post : Int32 → GW → IV → JV → Prop) : Prop :=
  ∀ sz : Nat, Met l y (.codeWith y cc nL rt hh :: bw) (rmF fr lo mc ms) (va_Pc av (gP z G sz iv jv)) (va_Qi (S := GW × IV × JV) (pI post G) (gB G sz) (gA G sz)) mc ms (gA G sz)
def MSW (own : String) (idx : Nat) (y : MethodName) (cc : ByteArray) (nL : Nat) (rt : Option FieldType) (hh : List (Nat × Nat × Nat × Nat)) (n : Nat) : Prop :=
  Cond.methodLink own idx y ∈ bw ∧ Cond.static y ∈ bw ∧ Cond.initialized y.cls ∈ bw ∧ Cond.codeWith y cc nL rt hh ∈ bw ∧ y.cls ≠ "java/lang/invoke/MethodHandle" ∧ y.cls ≠ "java/lang/invoke/VarHandle" ∧ (parseMethodDescriptor y.desc).map (fun d => d.parameters.length) = some n
section HS
variable {p : Program} {l : Launch} {e : Env} {R : Room} {s : State} {m : MethodId} {args : Array Value} {below : List Frame} {meth : Method} {c : Code} {H : Heap} {locs : List Loc} {cells slots : Nat} {Q : State → Prop}
variable {cc : ByteArray} {pc : Nat} {ls : Array Slot} {rest st : List Value} {D : va_G} {cy : Nat → ClassId} {G : GW} {A : Nat → Prop} {H0 : Heap} {iv : IV} {jv : JV} {own : String} {lb ci k idx : Nat} {z : ZK}
variable {y : MethodName} {c2 : ByteArray} {nL nL0 n fr lo mc ms sz : Nat} {rt : Option FieldType} {hh : List (Nat × Nat × Nat × Nat)} {As : List Value}
theorem rh_entry {av : List Value} {P : Array Value → State → Outcome → State → Prop} (hy : plainName y.cls = true) (hsl : (lg_sl av).length ≤ nL)
    (body : ∀ (p : Program) (e : Env) (s : State) (m : MethodId) (below : List Frame) (meth : Method) (c : Code) (ls : Array Slot), EN p c s m av.toArray c2 y.cls G.D G.cy z (gA G sz) → meth.sig.returnType = rt → meth.locks = false → c.maxLocals = nL → meth.name = y.name → lv_has ls nL (lv_args 0 av) → s.heap.size = sz → c.exceptionTable.toList = tableOf hh → HS G.D G.cy G (gA G sz) s.heap iv jv s.heap [] →
      W p l e (rmF fr lo mc ms) s m av.toArray below meth c s.heap [] 0 0 (MQ below P av.toArray s mc ms (gA G sz)) (F0 m 0 ls [])) :
    Met l y (.codeWith y c2 nL rt hh :: bw) (rmF fr lo mc ms) (va_Pc av (gP z G sz iv jv)) P mc ms (gA G sz) := by
  refine ofWH (cc := c2) (maxL := nL) (ret := rt) (hh := hh) hy rfl ?_
  intro p e s m args below meth c s₁ B hml hv
  obtain ⟨rfl, hsz, ⟨hP, hK, hok⟩, hZ⟩ := hv
  have hts := atoms_spec (ws := .codeWith y c2 nL rt hh :: bw) B.pre
  have hown : s.vm.findClass y.cls = some m.cls := findClass_of_methodNamed B.named
  have hl := lv_entry av (n := nL) hsl
  rw [lg_entry_eq]
  exact body p e s m below meth c _ ⟨B.exec, B.bytes, hown, fun w hw => hts w (List.mem_cons_of_mem _ hw), hK, hZ⟩ B.returns B.notSynchronized hml (name_of_methodNamed B.named B.method).1 hl hsz (vx_table (x := y) B (hts _ List.mem_cons_self))
    ⟨rfl, rfl, hP, va_S.rf, hok, fun lb h => Or.inl ⟨lb, h, rfl⟩, fun q h => Or.inr (by rw [← hsz]; exact h)⟩
theorem rh_SI {post : Int32 → GW → IV → JV → Prop} (hE : EN p c s m args cc own D cy z A) (hml : c.maxLocals = nL0) (hH : HS D cy G A s.heap iv jv H locs) (hw : MSW own idx y c2 nL rt hh n) (hM : cH l z y c2 nL rt hh fr lo mc ms As G iv jv post) (hst : st = As.reverse ++ rest) (hR : fr + 1 ≤ R.frames ∧ 8 + (nL + 11) + lo ≤ R.locals) (hn : As.length = n) (hsz : ls.size = nL0) (hr8 : (rest.map fun v => v.category).sum ≤ 8) (hd : decode cc pc = .ok (.invokestatic idx, 3)) (hf : cells + mc ≤ R.cells ∧ slots + ms ≤ R.slots)
    (kk : ∀ (r : Int32) (G' : GW) (iv' : IV) (jv' : JV) (H1 : Heap) (locs1 : List Loc), post r G' iv' jv' → HS D cy G' A s.heap iv' jv' H1 locs1 → W p l e R s m args below meth c H1 locs1 (cells + mc) (slots + ms) Q (F0 m (pc + 3) ls (.int r :: rest))) : W p l e R s m args below meth c H locs cells slots Q (F0 m pc ls st) := by
  subst hst
  obtain ⟨w1, w2, w4, w5, hy1, hy2, hyn⟩ := hw
  have hgi : GoodIn bw (va_wsS own idx y (.codeWith y c2 nL rt hh :: bw)) := gi_app (fun w hw => by
    simp only [List.mem_cons, List.not_mem_nil, or_false] at hw
    rcases hw with rfl | rfl | rfl <;> assumption) (gi_code w5)
  exact rg_backI hE hH (vx_runSW (As := As) (rest := rest) ⟨hE.1, hE.2.1, hml, hE.2.2.1, hE.2.2.2.1⟩ (hM H.size) (vx_cwSW n hE.2.2.2.1 hgi rfl rfl rfl ⟨hy1, hy2, hyn⟩ hR) ⟨gP_blind, gP_at hE hH _⟩ rfl hn hsz rfl (lv_room (m := m) (pc := pc) (ls := ls) (rest := As.reverse ++ rest) hr8) hd hf) kk
/-- the script is read -/
theorem sc_ld {b L i : Nat} {xs : Nat → Int32} (hE : EN p c s m args cc own D cy z A) (hX : va_X b L xs s s.heap) (hb : b < s.heap.size) (hbA : ¬ A b) (hH : HS D cy G A s.heap iv jv H locs) (hi : i < L) (hL : L ≤ 3072) (hd : decode cc pc = .ok (.iaload, 1))
    (kk : W p l e R s m args below meth c H locs cells slots Q (F0 m (pc + 1) ls (.int (xs i) :: rest))) : W p l e R s m args below meth c H locs cells slots Q (F0 m pc ls (.int (nI i) :: .ref b :: rest)) := by
  refine va_sld hE.1 hE.2.1 hX hb hbA hH.2.2.2.1 (i := nI i) (vp_in_nI hi (by omega)) hd ?_
  rw [show (nI i).toNatClampNeg = i from cl_nI (by omega)]
  exact kk
theorem sc_len {b L : Nat} {xs : Nat → Int32} (hE : EN p c s m args cc own D cy z A) (hX : va_X b L xs s s.heap) (hb : b < s.heap.size) (hbA : ¬ A b) (hH : HS D cy G A s.heap iv jv H locs) (hd : decode cc pc = .ok (.arraylength, 1))
    (kk : W p l e R s m args below meth c H locs cells slots Q (F0 m (pc + 1) ls (.int (nI L) :: rest))) : W p l e R s m args below meth c H locs cells slots Q (F0 m pc ls (.ref b :: rest)) :=
  va_slen hE.1 hE.2.1 hX hb hbA hH.2.2.2.1 hd kk
end HS
/-! ===== both states under frames ===== -/
theorem MSt.fr {iv iv' : IV} {a : AS} {P : Nat → Nat → Prop} (h : MSt iv a) (hF : Fr iv iv' P) (hP : ∀ lb j, lb ≤ 42 → ¬ P lb j) : MSt iv' a :=
  ⟨⟨(hF _ _ (hP _ _ (by omega))).trans h.1.1, h.1.2.1, fun k hk => (hF _ _ (hP _ _ (by omega))).trans (h.1.2.2.1 k hk), h.1.2.2.2⟩, (hF _ _ (hP _ _ (by omega))).trans h.2.1, h.2.2.1.fr hF (hP _ _ (by omega)) (fun lb j _ _ => hP _ _ (by omega)) (fun lb j _ _ => hP _ _ (by omega)), h.2.2.2.1.fr hF (hP _ _ (by omega)) (fun lb j _ _ => hP _ _ (by omega)), h.2.2.2.2.fr hF (hP _ _ (by omega)) (fun k => hP _ _ (by omega))⟩
theorem CSt.fr {G : GW} {iv iv' : IV} {jv jv' : JV} {a : AS} {P Q : Nat → Nat → Prop} (h : CSt G iv jv a) (hF : Fr iv iv' P) (hJ : FrJ jv jv' Q) (hP : ∀ lb j, 100 ≤ lb → ¬ P lb j) (hQ : ∀ lb j, 100 ≤ lb → ¬ Q lb j) : CSt G iv' jv' a := by
  obtain ⟨h0, hw, ⟨t1, t2, t3, t4⟩, h3, ⟨b1, b2, b3⟩, ⟨p1, p2, p3⟩, hO, h7⟩ := h
  exact ⟨h0, hw, ⟨(hF _ _ (hP _ _ (by omega))).trans t1, t2, fun k hk => (hF _ _ (hP _ _ (by omega))).trans (t3 k hk), t4⟩, (hF _ _ (hP _ _ (by omega))).trans h3, ⟨(hF _ _ (hP _ _ (by omega))).trans b1, b2, fun k hk => (b3 k hk).fr2 hF hJ (fun lb j h1 h2 => hP _ _ (by unfold bL at h1; omega)) (fun lb j h1 h2 => hQ _ _ (by unfold bL at h1; omega))⟩, ⟨(hF _ _ (hP _ _ (by omega))).trans p1, p2, fun j hj => (p3 j hj).fr hF (fun i => hP _ _ (by unfold gL; omega))⟩, hO.fr hF (fun lb j h1 h2 => hP _ _ (by omega)), h7⟩
/-- TABLES and PROGRAMS are only added -/
def lnK (a a' : AS) : Prop := (aT a).length ≤ (aT a').length ∧ (aP a).length ≤ (aP a').length
theorem lnK.rf {a : AS} : lnK a a := ⟨Nat.le_refl _, Nat.le_refl _⟩
theorem lnK_table {a : AS} {x : Int32} : lnK a (spTable a x).2.2 := by
  unfold spTable onK; split
  · dsimp only; split
    · exact ⟨Nat.le_refl _, Nat.le_refl _⟩
    · split
      · exact ⟨Nat.le_refl _, Nat.le_refl _⟩
      · exact ⟨by show (aT a).length ≤ (aT a ++ [_]).length; simp, Nat.le_refl _⟩
  · exact lnK.rf
theorem lnK_program {a : AS} {t x : Int32} : lnK a (spProgram a t x).2.2 := by
  unfold spProgram onK; split
  · dsimp only; split
    · split
      · exact ⟨Nat.le_refl _, Nat.le_refl _⟩
      · split
        · exact ⟨Nat.le_refl _, Nat.le_refl _⟩
        · exact ⟨Nat.le_refl _, by show (aP a).length ≤ (aP a ++ [_]).length; simp⟩
    · exact lnK.rf
  · exact lnK.rf
theorem lnK_tell {a : AS} {x : Int32} : lnK a (spTell a x).2.2 := by
  unfold spTell onK; split
  · exact ⟨Nat.le_refl _, Nat.le_refl _⟩
  · exact lnK.rf
theorem lnK_feed {a : AS} {w : Nat → Int32} : lnK a (spFeed a w).2.2 := by
  unfold spFeed; split
  · exact lnK.rf
  · exact ⟨Nat.le_refl _, Nat.le_refl _⟩
theorem tNew_le {a : AS} {x : Int32} : tNew a x ≤ 1 := by
  unfold tNew spTable onK; split
  · dsimp only; split
    · show (aT a).length - (aT a).length ≤ 1; omega
    · split
      · show (aT a).length - (aT a).length ≤ 1; omega
      · show (aT a ++ [_]).length - (aT a).length ≤ 1; simp
  · show (aT a).length - (aT a).length ≤ 1; omega
theorem gNew_le {a : AS} {t x : Int32} : gNew a t x ≤ 1 := by
  unfold gNew spProgram onK; split
  · dsimp only; split
    · split
      · show (aP a).length - (aP a).length ≤ 1; omega
      · split
        · show (aP a).length - (aP a).length ≤ 1; omega
        · show (aP a ++ [_]).length - (aP a).length ≤ 1; simp
    · show (aP a).length - (aP a).length ≤ 1; omega
  · show (aP a).length - (aP a).length ≤ 1; omega
/-- what the law's own callers of the class leave -/
def wP (a : AS) (G : GW) (iv : IV) (jv : JV) (r : RS) (k : Int32) (G' : GW) (iv' : IV) (jv' : JV) : Prop := EX G G' 100 100000 ∧ k = nI r.1 ∧ (r.1 = 0 → jv' 50 0 = r.2.1.toInt64) ∧ CSt G' iv' jv' r.2.2 ∧ Fr iv iv' (fun lb _ => 100 ≤ lb) ∧ FrJ jv jv' (fun lb _ => lb = 50 ∨ 100 ≤ lb) ∧ r.1 < 3 ∧ lnK a r.2.2
theorem wP_no {G : GW} {iv : IV} {jv : JV} {r : RS} {a : AS} {k : Nat} (h : r = no (k + 1) a) (hX : CSt G iv jv a) (hk : k < 2) : wP a G iv jv r (nI (k + 1)) G iv jv := by
  subst h; exact ⟨EX.rf, rfl, fun h => absurd h (Nat.succ_ne_zero k), hX, Fr.rf, FrJ.rf, by show k + 1 < 3; omega, lnK.rf⟩
theorem wP_ok {a : AS} {G G' : GW} {iv iv' : IV} {jv jv' : JV} {r : RS} {v : Int32} (hK : lnK a r.2.2) (hE : EX G G' 100 100000) (h0 : r.1 = 0) (hv : v = r.2.1) (hX : CSt G' iv' jv' r.2.2) (hF : Fr iv iv' (fun lb _ => 100 ≤ lb)) (hJ : FrJ jv jv' (fun lb _ => 100 ≤ lb)) : wP a G iv jv r (nI 0) G' iv' (up2 jv' 50 0 v.toInt64) := by
  subst hv
  have hU : FrJ jv' (up2 jv' 50 0 r.2.1.toInt64) (fun lb _ => lb = 50) := FrJ.up FrJ.rf rfl
  exact ⟨hE, by rw [h0], fun _ => up2_s, hX.fr (P := fun _ _ => False) Fr.rf hU (fun _ _ _ h => h) (fun lb j h1 h2 => by omega), hF, (hJ.mono (fun lb j h => Or.inr h)).tr (hU.mono (fun lb j h => Or.inl h)), by omega, hK⟩
theorem wP_rd {G : GW} {iv : IV} {jv : JV} {a : AS} {r : RS} {v : Int32} (h : r = ok v a) (hX : CSt G iv jv a) : wP a G iv jv r (nI 0) G iv (up2 jv 50 0 v.toInt64) := by
  subst h; exact wP_ok lnK.rf EX.rf rfl rfl hX Fr.rf FrJ.rf
