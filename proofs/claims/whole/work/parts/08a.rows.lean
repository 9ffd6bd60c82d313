set_option maxHeartbeats 4000000 in
/-- the constructor with a text whose own call upward stands at another index, then athrow: the stack isn't traced -/
theorem xs_ctor {p : Program} {l : Launch} {e : Env} {R : Room} {s : State} {m₀ : MethodId} {args : Array Value} {below : List Frame} {meth : Method} {c : Code} {U0 : State} {locs : List Loc} {cells slots : Nat}
    (X : Stand p l e R s m₀ args below meth c U0 locs cells slots) (hexec : p.tables.exec = Jvm.exec) (htr : e.platform.stackTraces = false) {own cls : String} {names : List String} {ic ix : Nat} {rx : ByteArray}
    (x0 : decode rx 0 = .ok (.aload_n 0, 1)) (x1 : decode rx 1 = .ok (.aload_n 1, 1)) (x2 : decode rx 2 = .ok (.invokespecial ix, 3)) (x5 : decode rx 5 = .ok (.return_, 1))
    (hown : s.vm.findClass own = some m₀.cls) (hcls : Bundle.fit cls = true) (hnames : ∀ n ∈ names, Bundle.fit n = true) (h : ∀ a ∈ Bundle.ownAtomsX own ic cls ix rx names, a.before args s = true)
    (hlocs : ∀ x ∈ locs, ∀ cell, s.heap[x.base]? = some cell → cell.vm.isStatics = false)
    {a : Addr} {cX : ClassId} {kX : Class} (hfX : s.vm.findClass cls = some cX) (hkX : s.vm.classes[cX]? = some kX) (hcell : U0.heap[a]? = some (freshCell cX kX)) (hnew : s.heap.size ≤ a)
    {msg : Value} (hmsg : msg.isRef = true) {g : JFrame} (hg : g.method = m₀) (hsize : g.locals.size = c.maxLocals) (hlocked : g.locked = none) (hentered : g.entered = []) {rest : List Value} (hstack : g.stack = msg :: .ref a :: .ref a :: rest)
    (hd6 : decode c.code g.pc = .ok (.invokespecial ic, 3)) (hd9 : decode c.code (g.pc + 3) = .ok (.athrow, 1)) (hout : ∀ x ∈ c.exceptionTable.toList, covers x (g.pc + 3) = false)
    (hRf : names.length + 3 < R.frames) (hRl : 2 * g.monitorRoom + ((Value.ref a :: rest).map fun v => v.category).sum + (13 * (names.length + 1) + 42) ≤ R.locals) (hlocks : meth.locks = false) :
    ∃ U : State, Steps p.tables e below (U0.setTop g) U ∧ U.status = .running ∧ Ended U below (.threw a) ∧ s.WarmedH U.vm ∧ s.sameButNew ({ U with vm := s.vm } : State) locs cells slots ∧ ∃ ce, U.heap[a]? = some ce ∧ ce.cls = cX ∧ ce.vm = .none := by
  have hpl : e.platform.magicAccessors = ({} : Platform).magicAccessors := by rw [X.admits.platform]
  have w : ∀ x, x ∈ Bundle.ownAtomsX own ic cls ix rx names → x.holds args s none s [] = true := fun x hx => h x hx
  obtain ⟨T, Z0, L, -, Y⟩ := ThrowableC.of_atoms (args := args) (by rw [X.admits.platform]) (by rw [X.admits.platform]) hpl (fun x hx => h x (by simp [Bundle.ownAtomsX, hx]))
  obtain ⟨Z, M, LZ, LM, hnZ⟩ := Init0T.ofS_atoms (args := args) hpl L Y (fun x hx => h x (by simp [Bundle.ownAtomsX, hx]))
  obtain ⟨P1, Ps, hlen, L1, hL, hP1m, hlink1, hlink⟩ := Bundle.chainSX (args := args) hpl hnZ x0 x1 x2 x5 names cls hcls hnames (fun x hx => h x (by simp [Bundle.ownAtomsX, hx]))
  have hfd : s.vm.findClass cls = some P1.m.cls := findClass_of_methodNamed hP1m
  cases Option.some.inj (hfX.symm.trans hfd)
  obtain ⟨c1, kX', hc1, hk, hord, -, -, hn6⟩ := Cond.instantiable_spec (w (.instantiable cls 6) (by simp [Bundle.ownAtomsX]))
  cases Option.some.inj (hc1.symm.trans hfd)
  cases Option.some.inj (hkX.symm.trans hk)
  have sel : ∀ {mn : MethodName} {mi : MethodId}, Cond.selects cls mn mn ∈ Bundle.ownAtomsX own ic cls ix rx names → s.methodNamed? mn = some mi → s.methodFound? mn.cls mn.name mn.desc = some mi → selectMethod e.platform s.vm P1.m.cls mi = .method mi := fun hm h1 h2 => by
    obtain ⟨c2, r2, m2, q1, q2, q3, q4, -⟩ := Cond.selects_spec (w _ hm)
    cases Option.some.inj (q1.symm.trans hfd)
    cases Option.some.inj (q2.symm.trans h2)
    cases Option.some.inj (q3.symm.trans h1)
    rw [Launch.admits_selectMethod X.admits]; exact q4
  have hsel0 := sel (mn := Bundle.tFill0) (mi := T.fill0) (by simp [Bundle.ownAtomsX]) Y.fill0 (State.methodFound?_of_named Y.fill0 (by decide))
  have hselF := sel (mn := Bundle.tFill) (mi := T.fill) (by simp [Bundle.ownAtomsX]) Y.fill (State.methodFound?_of_named Y.fill (by decide))
  obtain ⟨cS0, hcS0, hiss⟩ := Y.statics
  obtain ⟨u0, hu0⟩ := Cond.staticRefV Y.unassigned L.unassignedStatic L.statics hcS0 hiss (w (.isRef (.static Bundle.tN "UNASSIGNED_STACK" Bundle.steD)) (by simp [Bundle.ownAtomsX]))
  obtain ⟨sen, hsen⟩ := Cond.staticRefV Y.sentinel L.sentinelStatic L.statics hcS0 hiss (w (.isRef (.static Bundle.tN "SUPPRESSED_SENTINEL" Bundle.listD)) (by simp [Bundle.ownAtomsX]))
  obtain ⟨ci9, i9, fB, hk9, hg9, ha9, hsB, -, hnB, htB, hffB⟩ := Cond.ownField (t := .object "java/lang/Object") Y.found L.cls (by decide +kernel) (w (.fieldLink Bundle.tN 198 Bundle.tN "backtrace" "Ljava/lang/Object;") (by simp [Bundle.ownAtomsX])) (w (.lays Bundle.tN Bundle.tN "backtrace" "Ljava/lang/Object;") (by simp [Bundle.ownAtomsX])) e.platform hpl
  obtain ⟨cS, hcS, heS, -, hkeep⟩ := X.same.2.2.2.2.2 T.aS cS0 hcS0
  have hno : ∀ i, (⟨T.aS, i⟩ : Loc) ∉ locs := fun i hm => by
    have := hlocs _ hm cS0 hcS0
    rw [hiss] at this; cases this
  have hkS : cS.vm ≠ .unknown := by
    rw [heS]; intro hu
    rw [show cS0.vm = .unknown from hu] at hiss
    cases hiss
  obtain ⟨iM, hffM⟩ := Y.msg
  obtain ⟨tyC, dC, hdC, hnC⟩ := Cond.laysAt hfd hk Y.cause (w (.lays cls Bundle.tN "cause" "Ljava/lang/Throwable;") (by simp [Bundle.ownAtomsX]))
  obtain ⟨tyS, dS, hdS, hnS⟩ := Cond.laysAt hfd hk Y.stack (w (.lays cls Bundle.tN "stackTrace" Bundle.steD) (by simp [Bundle.ownAtomsX]))
  obtain ⟨tyP, dP, hdP, hnP⟩ := Cond.laysAt hfd hk Y.supp (w (.lays cls Bundle.tN "suppressedExceptions" Bundle.listD) (by simp [Bundle.ownAtomsX]))
  obtain ⟨tyM, dM, hdM, hnM⟩ := Cond.laysAt hfd hk hffM (w (.lays cls Bundle.tN "detailMessage" "Ljava/lang/String;") (by simp [Bundle.ownAtomsX]))
  obtain ⟨tyB, dB, hdB, hnB2⟩ := Cond.laysAt hfd hk hffB (w (.lays cls Bundle.tN "backtrace" "Ljava/lang/Object;") (by simp [Bundle.ownAtomsX]))
  have bC := Cond.laysApart hdB hdC hnB2 hnC (by rw [hnB, Y.causeName]; decide)
  have bS := Cond.laysApart hdB hdS hnB2 hnS (by rw [hnB, Y.stackName]; decide)
  have bP := Cond.laysApart hdB hdP hnB2 hnP (by rw [hnB, Y.suppName]; decide)
  have hskip : SkipFacts T e.platform s (fun u => u) u0 ((preparedCellV T.toThrowableT (freshCell P1.m.cls kX) a u0 sen).withEntry U0.cur) :=
    ⟨{ ci198 := ci9, i198 := i9, fBack := fB }, ⟨hk9, hg9, ha9, hsB⟩, by
      have := fresh_default (c := P1.m.cls) tyB
      rw [htB] at this
      simpa [preparedCellV, Cell.setSlot, Cell.withEntry, Array.getElem?_setIfInBounds, bC, bS, bP, bC.symm, bS.symm, bP.symm, defaultValue] using this, fun _ _ => rfl⟩
  have hin : Cond.instanceMethod (Bundle.initS cls) ∈ Bundle.ownAtomsX own ic cls ix rx names ∧ Cond.code (Bundle.initS cls) rx 2 none ∈ Bundle.ownAtomsX own ic cls ix rx names := by cases names <;> simp [Bundle.ownAtomsX, Bundle.chainSAtomsX, Bundle.passSAtoms]
  obtain ⟨tm, mC, cdC, kC, vm1, hnm, -, -, -, -, -, -, -, hW1, st1⟩ := Steps.initColdS (tb := p.tables) (e := e) (below := below) (s := s) (U := U0) X.here hexec X.warmed hpl hown (t := Bundle.initS cls) rfl rfl (Bundle.fit_spec hcls).2
    (w (.methodLink own ic (Bundle.initS cls)) (by simp [Bundle.ownAtomsX])) (h _ hin.1) (bytes := rx) (maxL := 2) (h _ hin.2) (f := g) hg (a := a) (msg := msg) (rest := .ref a :: rest) hstack hd6
  cases Option.some.inj (hnm.symm.trans hP1m)
  obtain ⟨vm2, X2, st2⟩ := (X.noted hW1).ctorMessageOffV hexec (g := { g with stack := .ref a :: rest }) hg hsize T L Z LZ M LM (P1 :: Ps)
    (fun P hP => by rcases List.mem_cons.mp hP with rfl | hP; exact L1; exact hL P hP) ⟨hlink1, hlink⟩ (u0 := u0) (sen := sen) (self := a) hmsg (cell := freshCell P1.m.cls kX) (cellS := cS)
    hcell (fun _ => by simp) (by simp) rfl rfl hsel0 hselF hcS (Nat.ne_of_lt (Nat.lt_of_lt_of_le (Array.getElem?_eq_some_iff.mp hcS0).1 hnew)) hkS (by rw [hkeep _ (hno _)]; exact hu0) (by rw [hkeep _ (hno _)]; exact hsen)
    (Takes.of_laid hk hord tyC (by rw [Y.causeType]; rfl)) (Takes.of_laid hk hord tyS (by rw [Y.stackType]; exact fits_refV_array _ u0)) (Takes.of_laid hk hord tyP (by rw [Y.suppType]; exact fits_refV_object _ sen))
    (Takes.of_laid hk hord tyM (by rw [Y.msgType]; exact fits_refV_object _ ⟨msg, hmsg⟩)) Y.objLocals hskip htr [] hd6
    (by simp only [List.length_cons, hlen]; omega) (by simp only [List.length_cons, hlen]; exact hRl)
  obtain ⟨hwalk, hrun, hended, hWU, hsame⟩ := X2.athrowLeaves hexec (g := { g with stack := .ref a :: rest, pc := g.pc + 3 }) hg hlocked hentered hout (a := a) (rest := rest) rfl hd9
  have hlt : a < ((U0.setVm vm1).setVm vm2).heap.size := (Array.getElem?_eq_some_iff.mp hcell).1
  have hU := heapAt_setCell_self (s := (U0.setVm vm1).setVm vm2) (plainBareV T.toThrowableT (freshCell P1.m.cls kX) a u0 sen msg) hlt
  refine ⟨_, st1 _ (fun acts => ?_), hrun, hended, hWU, hsame.weaken (fun y hy hlt' => ?_) (Nat.le_refl _) (Nat.le_refl _), _, hU, rfl, rfl⟩
  · rw [doInvoke_state]
    exact st2 _ hwalk
  · rcases List.mem_append.mp hy with h1 | h1
    · exact h1
    · exfalso
      have hb : y.base = a := by
        simp only [List.mem_cons, List.not_mem_nil, or_false] at h1
        rcases h1 with rfl | rfl | rfl | rfl | rfl <;> rfl
      rw [hb] at hlt'
      exact Nat.not_lt.mpr hnew hlt'
theorem NWU {z : ZK} {A : Nat → Prop} {s : State} {H : Heap} (h : KS z A s H) : ∀ w ∈ nwL, va_Nw w s := h.2.2.2.2.2.2.1
/-! ===== throwing ===== -/
def nNSE : String := "java/util/NoSuchElementException"
def nIAE : String := "java/lang/IllegalArgumentException"
def nm2 : List String := ["java/lang/RuntimeException", "java/lang/Exception"]
def xAt (own : String) (ic : Nat) (X : String) (ix : Nat) (rx : ByteArray) : List Cond := (Bundle.ownAtomsX own ic X ix rx nm2).filter vx_no
/-- the words of a throw -/
def XW (own : String) (ik ic : Nat) (X : String) (ix : Nat) (rx : ByteArray) : Prop := Cond.classLink own ik X ∈ bw ∧ Cond.initialized X ∈ bw ∧ (∀ w ∈ xAt own ic X ix rx, w ∈ bw ∨ w ∈ nwL) ∧ (decode rx 0 = .ok (.aload_n 0, 1) ∧ decode rx 1 = .ok (.aload_n 1, 1) ∧ decode rx 2 = .ok (.invokespecial ix, 3) ∧ decode rx 5 = .ok (.return_, 1)) ∧ Bundle.fit X = true ∧ ∀ n ∈ nm2, Bundle.fit n = true
theorem nw_use {w : Cond} (h2 : nwk w = true) {A : Array Value} {U : State} (h : va_Nw w U) : w.before A U = true := by
  cases w with
  | arrayOver ty => exact h
  | methodLinkNest => exact va_Nw.use rfl h
  | declares => exact va_Nw.use rfl h
  | castable => exact va_Nw.use rfl h
  | _ => cases h2
section XR
variable {p : Program} {l : Launch} {e : Env} {R : Room} {s : State} {m : MethodId} {args : Array Value} {below : List Frame} {meth : Method} {c : Code} {H : Heap} {locs : List Loc} {cells slots : Nat} {Q : State → Prop}
variable {cc : ByteArray} {pc : Nat} {ls : Array Slot} {rest : List Value} {D : va_G} {cy : Nat → ClassId} {G : GW} {A : Nat → Prop} {iv : IV} {jv : JV} {own : String} {lb ci k idx : Nat} {z : ZK}
variable {Qc : Array Value → State → Outcome → State → Prop} {XC : String → State → State → Prop} {free : Addr → Prop}
set_option maxHeartbeats 4000000 in
theorem rx_thr {X : String} {ik ic ix i nL0 mc ms : Nat} {rx : ByteArray} (hl : l.stackTraces = false) (hE : EN p c s m args cc own D cy z A) (hH : HS D cy G A s.heap iv jv H locs) (hw : XW own ik ic X ix rx) (hi : i < 30) (ho : (sT.getD i ("", 0, "")).1 = own) (hml : c.maxLocals = nL0) (hsz : ls.size = nL0)
    (d0 : decode cc pc = .ok (.new ik, 3)) (d3 : decode cc (pc + 3) = .ok (.dup, 1)) (d4 : decode cc (pc + 4) = .ok (.ldc (sT.getD i ("", 0, "")).2.1, 2)) (d6 : decode cc (pc + 6) = .ok (.invokespecial ic, 3)) (d9 : decode cc (pc + 9) = .ok (.athrow, 1))
    (hout : ∀ x ∈ c.exceptionTable.toList, False) (hRf : 6 ≤ R.frames) (hRl : (rest.map fun v => v.category).sum + 82 ≤ R.locals) (hRc : cells + 1 ≤ R.cells) (hRs : slots + 6 ≤ R.slots) (hlocks : meth.locks = false)
    (hx : ∀ t : State, s.vm.Alike t.vm → H.size ≤ t.heap.size → (∀ q : Nat, q < H.size → t.heap[q]? = H[q]?) → XC X s t) (hf : ∀ y ∈ locs, free y.base) (hc : cells + 1 ≤ mc) (hs : slots + 6 ≤ ms) :
    W p l e R s m args below meth c H locs cells slots (vx_MQ below Qc XC args s mc ms free) (F0 m pc ls rest) := by
  subst ho
  obtain ⟨hexec, hb, hown, hts, hK, hZ⟩ := hE
  obtain ⟨w1, w2, w3, ⟨x0, x1, x2, x5⟩, hfit, hnames⟩ := hw
  have hS := hH.2.2.2.1
  intro T hT St
  have htr : e.platform.stackTraces = false := (show e.platform.stackTraces = l.stackTraces by rw [St.admits.platform]).trans hl
  have Y := vx_rebase St (R' := { frames := R.frames, locals := R.locals, cells := 1, slots := 6 }) (Nat.le_refl _) (Nat.le_refl _) hRc hRs
  obtain ⟨s', hA⟩ : ∃ y, y = (T.setVm s.vm).setFrames (.invoking m args :: below) := ⟨_, rfl⟩
  rw [← hA] at Y
  have hvm : s'.vm = s.vm := by rw [hA]; rfl
  have hhp : s'.heap = H := by rw [hA]; exact hT
  have hW0 : s.WarmedH s'.vm := by rw [hvm]; exact State.WarmedH.refl s
  have good : ∀ w ∈ bw, w.before args s' = true := fun w hw => word_at hW0 (bw_good hw) (hts w hw)
  have nwok : ∀ w ∈ nwL, w.before args s' = true := fun w hw => nw_use (List.mem_filter.mp hw).2 (nw1_same hvm (NWU hZ w hw) (List.mem_filter.mp hw).2)
  have hat : ∀ w ∈ xAt _ ic X ix rx, w.before args s' = true := fun w hw => (w3 w hw).elim (good w) (nwok w)
  have hU' : vx_Zq Bundle.tN "UNASSIGNED_STACK" Bundle.steD A s' s'.heap := by rw [hhp]; exact vx_Zq.moved hW0.alike (hZ.2.2.1.kept hS.2.1)
  have hN' : vx_Zq Bundle.tN "SUPPRESSED_SENTINEL" Bundle.listD A s' s'.heap := by rw [hhp]; exact vx_Zq.moved hW0.alike (hZ.2.2.2.1.kept hS.2.1)
  have h : ∀ w ∈ Bundle.ownAtomsX _ ic X ix rx nm2, w.before args s' = true := vx_own hat (vx_isRefq hU'.1) (vx_isRefq hN'.1) hU'.2.word hN'.2.word
  have hown' : s'.vm.findClass (sT.getD i ("", 0, "")).1 = some m.cls := by rw [hvm]; exact hown
  obtain ⟨vm1, cX, kX, hfX, hkX, -, -, X1, st1⟩ := Y.newCold hexec (own := (sT.getD i ("", 0, "")).1) (C := X) (index := ik) (n := 6) hown' (good _ w1) (h _ (by simp [Bundle.ownAtomsX])) (good _ w2) (g := F0 m pc ls rest) rfl (by rw [hb]; exact d0) (Nat.le_refl _) (Nat.le_refl _)
  generalize hT1 : (T.setVm vm1).pushCell { cls := cX, slots := kX.instanceTypes.map defaultValue, vm := .none } = T1 at X1 st1
  have hcellA : T1.heap[T.heap.size]? = some (freshCell cX kX) := by rw [← hT1]; exact State.heap_pushCell_size _ _
  have d3' : decode c.code (pc + 3) = .ok (.dup, 1) := by rw [hb]; exact d3
  have d4' : decode c.code (pc + 4) = .ok (.ldc (sT.getD i ("", 0, "")).2.1, 2) := by rw [hb]; exact d4
  have hstr := vk_R.warm hW0 (hZ.2.1 i hi)
  have hcat : (Value.ref T.heap.size).category = 1 := rfl
  obtain ⟨U, hsteps, hrun, hend, hW, hsame, ce, hce, hcc, hcv⟩ := xs_ctor X1 hexec htr x0 x1 x2 x5 hown' hfit hnames h (fun x hx => nomatch hx) hfX hkX hcellA (by rw [hhp, hT]; exact Nat.le_refl _) (msg := .ref (z.1 i)) rfl
    (g := { method := m, pc := pc + 6, locals := ls, stack := .ref (z.1 i) :: .ref T.heap.size :: .ref T.heap.size :: rest, locked := none }) rfl (hsz.trans hml.symm) rfl rfl (rest := rest) rfl
    (by rw [hb]; exact d6) (by rw [hb]; exact d9) (fun x hx => (hout x hx).elim) (show 2 + 3 < R.frames by omega) (by show 2 * 0 + _ + (13 * (2 + 1) + 42) ≤ _; simp only [List.map_cons, List.sum_cons, hcat]; omega) hlocks
  obtain ⟨f1, f2⟩ := vx_frame hsame
  rw [hhp] at f1 f2
  have hWs : s.WarmedH U.vm := State.WarmedH.trans hW0 hW
  have hall : s.sameButNew ({ U with vm := s.vm } : State) locs mc ms := by
    subst hA
    obtain ⟨e1, e2⟩ := hsame
    rw [State.setFrames_setFrames] at e1
    have h2 : (T.setVm s.vm).sameButNew ({ U with vm := s.vm } : State) [] (0 + 1) (0 + 6) := ⟨e1, e2⟩
    have h3 := St.same.trans h2
    rw [List.append_nil] at h3
    exact h3.mono hc hs
  refine ⟨U, ?_, .threw T.heap.size, hrun, hend, Or.inr ⟨T.heap.size, rfl, X, ce, locs, hx U hWs.alike f1 (fun q hq => f2 q hq (fun y hy => nomatch hy)), hce, hcv, by rw [hcc, ← hvm]; exact hfX, hWs, hall, hf⟩⟩
  refine st1 _ ?_
  show Steps p.tables e below (T1.setTop { method := m, pc := pc + 3, locals := ls, stack := .ref T.heap.size :: rest, locked := none }) _
  jvm_step X1.here [X1.here.top, hexec, d3', Value.category]
  exact X1.ldcString hexec (own := (sT.getD i ("", 0, "")).1) (text := (sT.getD i ("", 0, "")).2.2) (index := (sT.getD i ("", 0, "")).2.1) (a := z.1 i) hown' hstr.1 hstr.2
    (g := { method := m, pc := pc + 4, locals := ls, stack := .ref T.heap.size :: .ref T.heap.size :: rest, locked := none }) rfl d4' _ hsteps
end XR
def xrx : ByteArray := prog_23_method_4_code
theorem xw_of {own : String} {ic ix : Nat} {X : String} {rx : ByteArray} (ps : List Nat) (hp : xAt own ic X ix rx = ps.filterMap (fun i => lw_tbl[i]?)) (hg : (xAt own ic X ix rx).all (fun w => goodWord w || nwk w) = true) : ∀ w ∈ xAt own ic X ix rx, w ∈ bw ∨ w ∈ nwL := fun w hw => by
  have h1 := List.all_eq_true.mp hg w hw
  rw [hp] at hw
  obtain ⟨i, -, hi⟩ := List.mem_filterMap.mp hw
  have hm : w ∈ lw_tbl := List.mem_of_getElem? hi
  rw [Bool.or_eq_true] at h1
  rcases h1 with h | h
  · exact Or.inl (bw_of hm h)
  · exact Or.inr (List.mem_filter.mpr ⟨hm, h⟩)
theorem xw_ps_N : xAt RX10 144 nNSE 13 xrx = ([90, 365, 374, 377, 380, 382, 366, 367, 110, 111, 368, 373, 378, 398, 355, 399, 357, 400, 359, 369, 371, 361, 394, 395, 397, 361, 833, 834, 835, 388, 347, 388, 389, 390, 391, 349, 391, 392, 393, 394, 351, 832, 823, 824, 825, 376, 826, 827, 828, 829, 364, 363, 830] : List Nat).filterMap (fun i => lw_tbl[i]?) := by decide +kernel
theorem xw_ps_I : xAt RX10 237 nIAE 7 Bundle.six = ([90, 365, 374, 377, 380, 382, 366, 367, 110, 111, 368, 373, 378, 398, 355, 399, 357, 400, 359, 369, 371, 361, 394, 395, 397, 361, 385, 386, 387, 388, 347, 388, 389, 390, 391, 349, 391, 392, 393, 394, 351, 384, 344, 345, 352, 353, 354, 356, 358, 360, 364, 363, 362] : List Nat).filterMap (fun i => lw_tbl[i]?) := by decide +kernel
theorem xw_N : XW RX10 140 144 nNSE 13 xrx := ⟨(b4 22 rfl rfl), (b1 22 rfl rfl), xw_of _ xw_ps_N (by decide +kernel), ⟨by decide +kernel, by decide +kernel, by decide +kernel, by decide +kernel⟩, by decide +kernel, by decide +kernel⟩
theorem xw_I : XW RX10 233 237 nIAE 7 Bundle.six := ⟨(b2 23 rfl rfl), (b1 13 rfl rfl), xw_of _ xw_ps_I (by decide +kernel), ⟨Bundle.six_0, Bundle.six_1, Bundle.six_2, Bundle.six_5⟩, by decide +kernel, by decide +kernel⟩
/-! contracts of methods that may throw -/
def xX (px : String → GW → IV → JV → Prop) (G0 : GW) (sz : Nat) : String → State → State → Prop := vx_X (S := GW × IV × JV) (fun _ => True) (fun E u t => (px E u.1 u.2.1 u.2.2 ∧ u.1.D = G0.D ∧ u.1.cy = G0.cy) ∧ gB G0 sz u t) (gA G0 sz)
def cXI (l : Launch) (z : ZK) (y : MethodName) (cc : ByteArray) (nL : Nat) (rt : Option FieldType) (fr lo mc ms : Nat) (av : List Value) (G : GW) (iv : IV) (jv : JV) (post : Int32 → GW → IV → JV → Prop) (px : String → GW → IV → JV → Prop) : Prop :=
  ∀ sz : Nat, vx_Met l y (.code y cc nL rt :: bw) (rmF fr lo mc ms) (va_Pc av (gP z G sz iv jv)) (va_Qi (S := GW × IV × JV) (pI post G) (gB G sz) (gA G sz)) (xX px G sz) mc ms (gA G sz)
def cXV (l : Launch) (z : ZK) (y : MethodName) (cc : ByteArray) (nL : Nat) (rt : Option FieldType) (fr lo mc ms : Nat) (av : List Value) (G : GW) (iv : IV) (jv : JV) (post : GW → IV → JV → Prop) (px : String → GW → IV → JV → Prop) : Prop :=
  ∀ sz : Nat, vx_Met l y (.code y cc nL rt :: bw) (rmF fr lo mc ms) (va_Pc av (gP z G sz iv jv)) (va_Qv (S := GW × IV × JV) (pU post G) (gB G sz) (gA G sz)) (xX px G sz) mc ms (gA G sz)
def cXR (l : Launch) (z : ZK) (y : MethodName) (cc : ByteArray) (nL : Nat) (rt : Option FieldType) (fr lo mc ms : Nat) (av : List Value) (G : GW) (iv : IV) (jv : JV) (post : Nat → GW → IV → JV → Prop) (px : String → GW → IV → JV → Prop) : Prop :=
  ∀ sz : Nat, vx_Met l y (.code y cc nL rt :: bw) (rmF fr lo mc ms) (va_Pc av (gP z G sz iv jv)) (va_Qr (S := Nat × GW × IV × JV) (pR post G) (gBR G sz) (gA G sz)) (xX px G sz) mc ms (gA G sz)
section XS
variable {p : Program} {l : Launch} {e : Env} {R : Room} {s : State} {m : MethodId} {args : Array Value} {below : List Frame} {meth : Method} {c : Code} {H : Heap} {locs : List Loc} {cells slots : Nat} {Q : State → Prop}
variable {cc : ByteArray} {pc : Nat} {ls : Array Slot} {rest st : List Value} {D : va_G} {cy : Nat → ClassId} {G : GW} {A : Nat → Prop} {H0 : Heap} {iv : IV} {jv : JV} {own : String} {lb ci k idx : Nat} {z : ZK}
variable {y : MethodName} {c2 : ByteArray} {nL nL0 n fr lo mc ms sz : Nat} {rt : Option FieldType} {Qc : Array Value → State → Outcome → State → Prop} {XC : String → State → State → Prop} {free : Addr → Prop} {As : List Value} {px : String → GW → IV → JV → Prop}
/-- the start of a body that may throw -/
theorem rx_entry {av : List Value} (hy : plainName y.cls = true) (hsl : (lg_sl av).length ≤ nL)
    (body : ∀ (p : Program) (e : Env) (s : State) (m : MethodId) (below : List Frame) (meth : Method) (c : Code) (ls : Array Slot), EN p c s m av.toArray c2 y.cls G.D G.cy z (gA G sz) → meth.sig.returnType = rt → meth.locks = false → c.maxLocals = nL → meth.name = y.name → lv_has ls nL (lv_args 0 av) → s.heap.size = sz → (∀ x ∈ c.exceptionTable.toList, False) → HS G.D G.cy G (gA G sz) s.heap iv jv s.heap [] →
      W p l e (rmF fr lo mc ms) s m av.toArray below meth c s.heap [] 0 0 (vx_MQ below Qc XC av.toArray s mc ms (gA G sz)) (F0 m 0 ls [])) :
    vx_Met l y (.code y c2 nL rt :: bw) (rmF fr lo mc ms) (va_Pc av (gP z G sz iv jv)) Qc XC mc ms (gA G sz) := by
  refine vx_ofW (cc := c2) (maxL := nL) (ret := rt) hy rfl ?_
  intro p e s m args below meth c s₁ B hml hxt hv
  obtain ⟨rfl, hsz, ⟨hP, hK, hok⟩, hZ⟩ := hv
  have hts := atoms_spec (ws := .code y c2 nL rt :: bw) B.pre
  have hown : s.vm.findClass y.cls = some m.cls := findClass_of_methodNamed B.named
  have hl := lv_entry av (n := nL) hsl
  rw [lg_entry_eq]
  exact body p e s m below meth c _ ⟨B.exec, B.bytes, hown, fun w hw => hts w (List.mem_cons_of_mem _ hw), hK, hZ⟩ B.returns B.notSynchronized hml (name_of_methodNamed B.named B.method).1 hl hsz hxt
    ⟨rfl, rfl, hP, va_S.rf, hok, fun lb h => Or.inl ⟨lb, h, rfl⟩, fun q h => Or.inr (by rw [← hsz]; exact h)⟩
/-- what a throw leaves -/
theorem xX_at {E : String} {G' : GW} {iv' : IV} {jv' : JV} {t : State} (hE : EN p c s m args cc own G.D G.cy z (gA G sz)) (hH : HS G.D G.cy G' (gA G sz) s.heap iv' jv' H locs) (hp : px E G' iv' jv') (hv : s.vm.Alike t.vm) (h1 : H.size ≤ t.heap.size) (h2 : ∀ q : Nat, q < H.size → t.heap[q]? = H[q]?) : xX px G sz E s t := by
  obtain ⟨g1, g2, hP, hS0, hok, hLA, hA⟩ := hH
  refine ⟨(G', iv', jv'), trivial, ⟨⟨hp, g1, g2⟩, ⟨?_, ?_, hok⟩, hLA⟩, Nat.le_trans hS0.1 h1, fun q hq hn => (h2 q (Nat.lt_of_lt_of_le hq hS0.1)).trans (hS0.2.1 q hq hn)⟩
  · dsimp only; rw [g1]; exact hP.kept (fun k x hx => h2 x.1 ((hP k x hx).lt))
  · dsimp only; rw [g1, g2]; exact va_K.moved hv hE.2.2.2.2.1
/-- a throw in a contract -/
theorem rx_throw {X : String} {ik ic ix i : Nat} {rx : ByteArray} {G' : GW} {iv' : IV} {jv' : JV} (hl : l.stackTraces = false) (hE : EN p c s m args cc own G.D G.cy z (gA G sz)) (hH : HS G.D G.cy G' (gA G sz) s.heap iv' jv' H locs) (hw : XW own ik ic X ix rx) (hi : i < 30) (ho : (sT.getD i ("", 0, "")).1 = own) (hml : c.maxLocals = nL0) (hsz : ls.size = nL0)
    (d0 : decode cc pc = .ok (.new ik, 3)) (d3 : decode cc (pc + 3) = .ok (.dup, 1)) (d4 : decode cc (pc + 4) = .ok (.ldc (sT.getD i ("", 0, "")).2.1, 2)) (d6 : decode cc (pc + 6) = .ok (.invokespecial ic, 3)) (d9 : decode cc (pc + 9) = .ok (.athrow, 1))
    (hout : ∀ x ∈ c.exceptionTable.toList, False) (hRf : 6 ≤ R.frames) (hRl : (rest.map fun v => v.category).sum + 82 ≤ R.locals) (hRc : cells + 1 ≤ R.cells) (hRs : slots + 6 ≤ R.slots) (hlocks : meth.locks = false) (hc : cells + 1 ≤ mc) (hs : slots + 6 ≤ ms) (hp : px X G' iv' jv') :
    W p l e R s m args below meth c H locs cells slots (vx_MQ below Qc (xX px G sz) args s mc ms (gA G sz)) (F0 m pc ls rest) :=
  rx_thr hl hE hH hw hi ho hml hsz d0 d3 d4 d6 d9 hout hRf hRl hRc hRs hlocks (fun t hv h1 h2 => xX_at hE hH hp hv h1 h2) (fun y hy => hH.2.2.2.1.2.2 y hy) hc hs
/-- a throw goes through -/
theorem rx_out {E : String} {ce : Cell} {q : Addr} {G' : GW} {iv' : IV} {jv' : JV} (hE : EN p c s m args cc own G.D G.cy z (gA G sz)) (hH : HS G.D G.cy G' (gA G sz) s.heap iv' jv' H locs) (hout : ∀ x ∈ c.exceptionTable.toList, False) (hlocks : meth.locks = false) (hcell : H[q]? = some ce) (hv : ce.vm = .none) (hcl : s.vm.findClass E = some ce.cls) (hc : cells ≤ mc) (hs : slots ≤ ms) (hp : px E G' iv' jv') :
    vx_W p l e R s m args below meth c H locs cells slots (vx_MQ below Qc (xX px G sz) args s mc ms (gA G sz)) (F0 m pc ls rest) q :=
  vx_out (fun x hx => (hout x hx).elim) hlocks hcell hv hcl (fun t ht hva => xX_at hE hH hp hva (by rw [ht]; exact Nat.le_refl _) (fun q _ => by rw [ht])) (fun y hy => hH.2.2.2.1.2.2 y hy) hc hs
theorem rx_backX {E : String} {G' : GW} {u : GW × IV × JV} {t : State} {H1 : Heap} {locs1 : List Loc} (hE : EN p c s m args cc own D cy z A) (hH : HS D cy G A s.heap iv jv H locs) (ht : t.heap = H1) (hB : (px E u.1 u.2.1 u.2.2 ∧ u.1.D = G.D ∧ u.1.cy = G.cy) ∧ gB G H.size u t) (hS : va_S A s.heap H1 locs1) : HS D cy u.1 A s.heap u.2.1 u.2.2 H1 locs1 := hs_back hE hH ht hB.2 hB.1.2.1 hB.1.2.2 hS
theorem rx_runV (hE : EN p c s m args cc own D cy z A) (hml : c.maxLocals = nL0) (hH : HS D cy G A s.heap iv jv H locs) (hw : MV own idx ci y c2 nL rt n) (hM : vx_Met l y (.code y c2 nL rt :: bw) (rmF fr lo mc ms) (va_Pc (.ref (G.ad lb) :: As) (gP z G H.size iv jv)) Qc XC mc ms free) (hm : lb ∈ G.L) (hk : G.kd lb = ci) (h12 : ci < 12) (hR : fr + 1 ≤ R.frames ∧ 8 + (nL + 11) + lo ≤ R.locals) (hn : As.length = n) (hsz : ls.size = nL0) (hr8 : (rest.map fun v => v.category).sum ≤ 8) (hd : decode cc pc = .ok (.invokevirtual idx, 3)) (hf : cells + mc ≤ R.cells ∧ slots + ms ≤ R.slots) :
    vx_Run p l e R s m args below meth c H locs cells slots mc ms (F0 m pc ls (As.reverse ++ .ref (G.ad lb) :: rest)) rest (Qc (Value.ref (G.ad lb) :: As).toArray) XC free := by
  obtain ⟨C, T, N, hc, w1, w2, w3, w4, w5, hyC, hy1, hy2, hyn⟩ := hw
  have hE' := hE
  obtain ⟨hx, hb, hown, hts, hK, hZ⟩ := hE
  obtain ⟨k0, hk0, -⟩ := wl_get (iv := iv) (jv := jv) hm
  rw [pE_o hk h12] at hk0
  have hgi : GoodIn bw (wsV own idx C y (.code y c2 nL rt :: bw)) := gi_app (fun w hw => by
    simp only [List.mem_cons, List.not_mem_nil, or_false] at hw
    rcases hw with rfl | rfl | rfl | rfl <;> assumption) (gi_code w5)
  exact vx_runV (As := As) (rest := rest) ⟨hx, hb, hml, hown, hts⟩ hM (cwV n hts hgi rfl rfl rfl ⟨hyC, hy1, hy2, hyn⟩ hR) ⟨gP_blind, va_recv hK hH.2.2.1 hc hk0, gP_at hE' hH _⟩ rfl hn hsz rfl (lv_room (m := m) (pc := pc) (ls := ls) (rest := As.reverse ++ .ref (G.ad lb) :: rest) hr8) hd hf
theorem rx_runS (hE : EN p c s m args cc own D cy z A) (hml : c.maxLocals = nL0) (hH : HS D cy G A s.heap iv jv H locs) (hw : MS own idx y c2 nL rt n) (hM : vx_Met l y (.code y c2 nL rt :: bw) (rmF fr lo mc ms) (va_Pc As (gP z G H.size iv jv)) Qc XC mc ms free) (hR : fr + 1 ≤ R.frames ∧ 8 + (nL + 11) + lo ≤ R.locals) (hn : As.length = n) (hsz : ls.size = nL0) (hr8 : (rest.map fun v => v.category).sum ≤ 8) (hd : decode cc pc = .ok (.invokestatic idx, 3)) (hf : cells + mc ≤ R.cells ∧ slots + ms ≤ R.slots) :
    vx_Run p l e R s m args below meth c H locs cells slots mc ms (F0 m pc ls (As.reverse ++ rest)) rest (Qc As.toArray) XC free := by
  obtain ⟨w1, w2, w4, w5, hy1, hy2, hyn⟩ := hw
  have hE' := hE
  obtain ⟨hx, hb, hown, hts, hK, hZ⟩ := hE
  exact vx_runS (As := As) (rest := rest) ⟨hx, hb, hml, hown, hts⟩ hM ⟨callB_of n hts (gi_code w5) rfl rfl rfl (hts _ w4) (hts _ w1) ⟨hy1, hy2, hyn⟩ hR, hts _ w2⟩ ⟨gP_blind, gP_at hE' hH _⟩ rfl hn hsz rfl (lv_room (m := m) (pc := pc) (ls := ls) (rest := As.reverse ++ rest) hr8) hd hf
/-- a call comes back with an int, or throws -/
theorem rx_VI {post : Int32 → GW → IV → JV → Prop} (hE : EN p c s m args cc own D cy z A) (hml : c.maxLocals = nL0) (hH : HS D cy G A s.heap iv jv H locs) (hw : MV own idx ci y c2 nL rt n) (hM : cXI l z y c2 nL rt fr lo mc ms (.ref (G.ad lb) :: As) G iv jv post px) (hm : lb ∈ G.L) (hk : G.kd lb = ci) (h12 : ci < 12) (hst : st = As.reverse ++ .ref (G.ad lb) :: rest) (hR : fr + 1 ≤ R.frames ∧ 8 + (nL + 11) + lo ≤ R.locals) (hn : As.length = n) (hsz : ls.size = nL0) (hr8 : (rest.map fun v => v.category).sum ≤ 8) (hd : decode cc pc = .ok (.invokevirtual idx, 3)) (hf : cells + mc ≤ R.cells ∧ slots + ms ≤ R.slots)
    (kx : ∀ (E : String) (ce : Cell) (q : Addr) (G' : GW) (iv' : IV) (jv' : JV) (H1 : Heap) (locs1 : List Loc), px E G' iv' jv' → HS D cy G' A s.heap iv' jv' H1 locs1 → H1[q]? = some ce → ce.vm = .none → s.vm.findClass E = some ce.cls → vx_W p l e R s m args below meth c H1 locs1 (cells + mc) (slots + ms) Q (F0 m pc ls rest) q)
    (kk : ∀ (r : Int32) (G' : GW) (iv' : IV) (jv' : JV) (H1 : Heap) (locs1 : List Loc), post r G' iv' jv' → HS D cy G' A s.heap iv' jv' H1 locs1 → W p l e R s m args below meth c H1 locs1 (cells + mc) (slots + ms) Q (F0 m (pc + 3) ls (.int r :: rest))) : W p l e R s m args below meth c H locs cells slots Q (F0 m pc ls st) := by
  subst hst
  exact vx_calli (rx_runV hE hml hH hw (hM H.size) hm hk h12 hR hn hsz hr8 hd hf) hH.2.2.2.1 (fun q _ h => gA_A hH q h) (gA_A hH) (fun q _ h => gA_A hH q h) (fun E ce q u t H1 locs1 ht hvm _ hB hz1 hk1 hS hce hcv hcl => kx E ce q u.1 u.2.1 u.2.2 H1 locs1 hB.1.1 (rx_backX (G' := G) hE hH ht hB hS) hce hcv hcl) (fun r u t H1 locs1 ht hvm hw hB hz1 hk1 hS => kk r u.1 u.2.1 u.2.2 H1 locs1 hw.1 (hs_back hE hH ht hB hw.2.1 hw.2.2 hS))
theorem rx_VV {post : GW → IV → JV → Prop} (hE : EN p c s m args cc own D cy z A) (hml : c.maxLocals = nL0) (hH : HS D cy G A s.heap iv jv H locs) (hw : MV own idx ci y c2 nL rt n) (hM : cXV l z y c2 nL rt fr lo mc ms (.ref (G.ad lb) :: As) G iv jv post px) (hm : lb ∈ G.L) (hk : G.kd lb = ci) (h12 : ci < 12) (hst : st = As.reverse ++ .ref (G.ad lb) :: rest) (hR : fr + 1 ≤ R.frames ∧ 8 + (nL + 11) + lo ≤ R.locals) (hn : As.length = n) (hsz : ls.size = nL0) (hr8 : (rest.map fun v => v.category).sum ≤ 8) (hd : decode cc pc = .ok (.invokevirtual idx, 3)) (hf : cells + mc ≤ R.cells ∧ slots + ms ≤ R.slots)
    (kx : ∀ (E : String) (ce : Cell) (q : Addr) (G' : GW) (iv' : IV) (jv' : JV) (H1 : Heap) (locs1 : List Loc), px E G' iv' jv' → HS D cy G' A s.heap iv' jv' H1 locs1 → H1[q]? = some ce → ce.vm = .none → s.vm.findClass E = some ce.cls → vx_W p l e R s m args below meth c H1 locs1 (cells + mc) (slots + ms) Q (F0 m pc ls rest) q)
    (kk : ∀ (G' : GW) (iv' : IV) (jv' : JV) (H1 : Heap) (locs1 : List Loc), post G' iv' jv' → HS D cy G' A s.heap iv' jv' H1 locs1 → W p l e R s m args below meth c H1 locs1 (cells + mc) (slots + ms) Q (F0 m (pc + 3) ls rest)) : W p l e R s m args below meth c H locs cells slots Q (F0 m pc ls st) := by
  subst hst
  exact vx_callv (rx_runV hE hml hH hw (hM H.size) hm hk h12 hR hn hsz hr8 hd hf) hH.2.2.2.1 (fun q _ h => gA_A hH q h) (gA_A hH) (fun q _ h => gA_A hH q h) (fun E ce q u t H1 locs1 ht hvm _ hB hz1 hk1 hS hce hcv hcl => kx E ce q u.1 u.2.1 u.2.2 H1 locs1 hB.1.1 (rx_backX (G' := G) hE hH ht hB hS) hce hcv hcl) (fun u t H1 locs1 ht hvm hw hB hz1 hk1 hS => kk u.1 u.2.1 u.2.2 H1 locs1 hw.1 (hs_back hE hH ht hB hw.2.1 hw.2.2 hS))
theorem rx_SV {post : GW → IV → JV → Prop} (hE : EN p c s m args cc own D cy z A) (hml : c.maxLocals = nL0) (hH : HS D cy G A s.heap iv jv H locs) (hw : MS own idx y c2 nL rt n) (hM : cXV l z y c2 nL rt fr lo mc ms As G iv jv post px) (hst : st = As.reverse ++ rest) (hR : fr + 1 ≤ R.frames ∧ 8 + (nL + 11) + lo ≤ R.locals) (hn : As.length = n) (hsz : ls.size = nL0) (hr8 : (rest.map fun v => v.category).sum ≤ 8) (hd : decode cc pc = .ok (.invokestatic idx, 3)) (hf : cells + mc ≤ R.cells ∧ slots + ms ≤ R.slots)
    (kx : ∀ (E : String) (ce : Cell) (q : Addr) (G' : GW) (iv' : IV) (jv' : JV) (H1 : Heap) (locs1 : List Loc), px E G' iv' jv' → HS D cy G' A s.heap iv' jv' H1 locs1 → H1[q]? = some ce → ce.vm = .none → s.vm.findClass E = some ce.cls → vx_W p l e R s m args below meth c H1 locs1 (cells + mc) (slots + ms) Q (F0 m pc ls rest) q)
    (kk : ∀ (G' : GW) (iv' : IV) (jv' : JV) (H1 : Heap) (locs1 : List Loc), post G' iv' jv' → HS D cy G' A s.heap iv' jv' H1 locs1 → W p l e R s m args below meth c H1 locs1 (cells + mc) (slots + ms) Q (F0 m (pc + 3) ls rest)) : W p l e R s m args below meth c H locs cells slots Q (F0 m pc ls st) := by
  subst hst
  exact vx_callv (rx_runS hE hml hH hw (hM H.size) hR hn hsz hr8 hd hf) hH.2.2.2.1 (fun q _ h => gA_A hH q h) (gA_A hH) (fun q _ h => gA_A hH q h) (fun E ce q u t H1 locs1 ht hvm _ hB hz1 hk1 hS hce hcv hcl => kx E ce q u.1 u.2.1 u.2.2 H1 locs1 hB.1.1 (rx_backX (G' := G) hE hH ht hB hS) hce hcv hcl) (fun u t H1 locs1 ht hvm hw hB hz1 hk1 hS => kk u.1 u.2.1 u.2.2 H1 locs1 hw.1 (hs_back hE hH ht hB hw.2.1 hw.2.2 hS))
/-- a call comes back with a reference, or throws -/
theorem rx_VR {post : Nat → GW → IV → JV → Prop} (hE : EN p c s m args cc own D cy z A) (hml : c.maxLocals = nL0) (hH : HS D cy G A s.heap iv jv H locs) (hw : MV own idx ci y c2 nL rt n) (hM : cXR l z y c2 nL rt fr lo mc ms (.ref (G.ad lb) :: As) G iv jv post px) (hm : lb ∈ G.L) (hk : G.kd lb = ci) (h12 : ci < 12) (hst : st = As.reverse ++ .ref (G.ad lb) :: rest) (hR : fr + 1 ≤ R.frames ∧ 8 + (nL + 11) + lo ≤ R.locals) (hn : As.length = n) (hsz : ls.size = nL0) (hr8 : (rest.map fun v => v.category).sum ≤ 8) (hd : decode cc pc = .ok (.invokevirtual idx, 3)) (hf : cells + mc ≤ R.cells ∧ slots + ms ≤ R.slots)
    (kx : ∀ (E : String) (ce : Cell) (q : Addr) (G' : GW) (iv' : IV) (jv' : JV) (H1 : Heap) (locs1 : List Loc), px E G' iv' jv' → HS D cy G' A s.heap iv' jv' H1 locs1 → H1[q]? = some ce → ce.vm = .none → s.vm.findClass E = some ce.cls → vx_W p l e R s m args below meth c H1 locs1 (cells + mc) (slots + ms) Q (F0 m pc ls rest) q)
    (kk : ∀ (r : Nat) (G' : GW) (iv' : IV) (jv' : JV) (H1 : Heap) (locs1 : List Loc), post r G' iv' jv' → HS D cy G' A s.heap iv' jv' H1 locs1 → W p l e R s m args below meth c H1 locs1 (cells + mc) (slots + ms) Q (F0 m (pc + 3) ls (.ref (G'.ad r) :: rest))) : W p l e R s m args below meth c H locs cells slots Q (F0 m pc ls st) := by
  subst hst
  have hr := rx_runV (e := e) (below := below) (meth := meth) (rest := rest) hE hml hH hw (hM H.size) hm hk h12 hR hn hsz hr8 hd hf
  intro T hT X
  rcases hr T hT X with ⟨v, st0, t, T', L, h0, X', hL, e1, e2, ⟨⟨u, a, hv, hp, hb⟩, hF⟩, stp⟩ | ⟨q, st0, t, T', L, E, ce, h0, X', hL, e1, e2, ⟨u, -, hb, hF⟩, hce, hcv, hcl, stp⟩
  · cases hv
    obtain ⟨k1, k2, k3⟩ := vx_keep h0 e1 hH.2.2.2.1 (fun q _ h => gA_A hH q h) (gA_A hH) hL hF
    obtain ⟨ha, hB⟩ := hb
    subst ha
    obtain ⟨t2, a1, b1⟩ := kk u.1 u.2.1 u.2.2.1 u.2.2.2 T'.heap (locs ++ L) hp.1 (hs_back hE hH e1.symm hB hp.2.1 hp.2.2 k3) T' rfl X'
    exact ⟨t2, stp t2 a1, b1⟩
  · obtain ⟨k1, k2, k3⟩ := vx_keep h0 e1 hH.2.2.2.1 (fun q _ h => gA_A hH q h) (gA_A hH) hL hF
    obtain ⟨t2, a1, b1⟩ := kx E ce q u.1 u.2.1 u.2.2 T'.heap (locs ++ L) hb.1.1 (rx_backX (G' := G) hE hH e1.symm hb k3) (by rw [e1]; exact hce) hcv hcl T' rfl X'
    exact ⟨t2, stp.trans a1, b1⟩
end XS
