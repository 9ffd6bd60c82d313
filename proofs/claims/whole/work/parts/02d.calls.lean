section R2
variable {p : Program} {l : Launch} {e : Env} {R : Room} {s : State} {m : MethodId} {args : Array Value} {below : List Frame} {meth : Method} {c : Code} {H : Heap} {locs : List Loc} {cells slots : Nat} {Q : State → Prop}
variable {cc : ByteArray} {pc : Nat} {ls : Array Slot} {rest : List Value} {D : va_G} {cy : Nat → ClassId} {G : GW} {A : Nat → Prop} {H0 : Heap} {iv : IV} {jv : JV} {own : String} {lb ci k idx : Nat} {z : ZK}
theorem rg_zast (hE : EN p c s m args cc own D cy z A) (hH : HS D cy G A H0 iv jv H locs) (hm : lb ∈ G.L) (hk : G.kd lb = 15) {n : Nat} (hn : n < G.ln lb) {v w : Int32} (hv : vp_nar .boolean v = w) (hd : decode cc pc = .ok (.bastore, 1))
    (kk : ∀ (H1 : Heap) (locs1 : List Loc), HS D cy G A H0 (up2 iv lb n w) jv H1 locs1 → W p l e R s m args below meth c H1 locs1 cells slots Q (F0 m (pc + 1) ls rest)) : W p l e R s m args below meth c H locs cells slots Q (F0 m pc ls (.int v :: .int (nI n) :: .ref (G.ad lb) :: rest)) := by
  have hD := hs_D hH
  obtain ⟨hx, hb, hown, hts, hK, hZ⟩ := hE
  obtain ⟨g1, g2, hP, hS, hok, hLA, hA⟩ := hH
  obtain ⟨k0, hk0, hL0⟩ := wl_get (iv := iv) (jv := jv) hm
  rw [pE_i hk (by omega)] at hk0
  have hlt := ok_ln hok hm
  subst g2
  refine va_zast (D := D) hx hb hK hP hD hS k0 3 hk0 rfl (vp_in_nI hn hlt) hd (fun H1 locs1 hP1 _ hS1 => ?_)
  rw [clamp_nI (by omega), hv, wl_sti hok.1 hL0 hk (by omega)] at hP1
  exact kk H1 locs1 ⟨g1, rfl, hP1, hS1, hok, hLA, hA⟩
theorem tys_r {ci : Nat} (h : 16 ≤ ci) (h2 : ci < 20) : ∃ ty : FieldType, (tysC cy)[ci - 12]? = some (cy ci, ty) ∧ ty.isReference = true := by
  rcases (show ci = 16 ∨ ci = 17 ∨ ci = 18 ∨ ci = 19 by omega) with h | h | h | h <;> subst h
  · exact ⟨_, rfl, rfl⟩
  · exact ⟨_, rfl, rfl⟩
  · exact ⟨_, rfl, rfl⟩
  · exact ⟨_, rfl, rfl⟩
theorem rg_aldq (hE : EN p c s m args cc own D cy z A) (hH : HS D cy G A H0 iv jv H locs) (hm : lb ∈ G.L) (hk : G.kd lb = ci) (h16 : 16 ≤ ci) (h20 : ci < 20) {n : Nat} (hn : n < G.ln lb) (hd : decode cc pc = .ok (.aaload, 1))
    (kk : W p l e R s m args below meth c H locs cells slots Q (F0 m (pc + 1) ls (va_rf ((G.rv lb n).map G.ad) :: rest))) : W p l e R s m args below meth c H locs cells slots Q (F0 m pc ls (.int (nI n) :: .ref (G.ad lb) :: rest)) := by
  obtain ⟨hx, hb, hown, hts, hK, hZ⟩ := hE
  obtain ⟨g1, g2, hP, hS, hok, hLA, hA⟩ := hH
  obtain ⟨k0, hk0, -⟩ := wl_get (iv := iv) (jv := jv) hm
  rw [pE_r hk h16] at hk0
  have hlt := ok_ln hok hm
  subst g2
  obtain ⟨ty, ht, hty⟩ := tys_r (cy := G.cy) h16 h20
  have hin := vp_in_nI hn hlt
  refine W.aald (v := va_rf ((G.rv lb n).map G.ad)) (ty := ty) hx hb (hP k0 _ hk0) ((hK.2 (ci - 12) _ ht).1 (G.ln lb) (fun j => va_rf ((fun j => (G.rv lb j).map G.ad) j))) hty (fun q => by cases q) (by show ¬ (nI n < 0 ∨ (arrV _ _ _).slots.size ≤ _); rw [arrV_size]; exact hin) (by show (arrV _ _ _).slots[_]? = _; rw [clamp_nI (by omega), arrV_read _ _ hn]) rfl rfl hd kk
theorem rg_aldr (hE : EN p c s m args cc own D cy z A) (hH : HS D cy G A H0 iv jv H locs) (hm : lb ∈ G.L) (hk : G.kd lb = ci) (h16 : 16 ≤ ci) (h20 : ci < 20) {n : Nat} (hn : n < G.ln lb) {v : Nat} (hv : G.rv lb n = some v) (hd : decode cc pc = .ok (.aaload, 1))
    (kk : W p l e R s m args below meth c H locs cells slots Q (F0 m (pc + 1) ls (.ref (G.ad v) :: rest))) : W p l e R s m args below meth c H locs cells slots Q (F0 m pc ls (.int (nI n) :: .ref (G.ad lb) :: rest)) :=
  rg_aldq hE hH hm hk h16 h20 hn hd (by rw [hv]; exact kk)
/-- an object into an array of its class: kinds 16 (Column), 17 (Program), 18 (Table) -/
theorem rg_astr (hE : EN p c s m args cc own D cy z A) (hH : HS D cy G A H0 iv jv H locs) {cv : Nat} (hcv : (cv = 0 ∧ ci = 16) ∨ (cv = 5 ∧ ci = 17) ∨ (cv = 7 ∧ ci = 18)) (hm : lb ∈ G.L) (hk : G.kd lb = ci) {n : Nat} (hn : n < G.ln lb) {v : Nat} (hvm : v ∈ G.L) (hvk : G.kd v = cv) (hd : decode cc pc = .ok (.aastore, 1))
    (kk : ∀ (H1 : Heap) (locs1 : List Loc), HS D cy (G.setR (up2 G.rv lb n (some v))) A H0 iv jv H1 locs1 → W p l e R s m args below meth c H1 locs1 cells slots Q (F0 m (pc + 1) ls rest)) : W p l e R s m args below meth c H locs cells slots Q (F0 m pc ls (.ref (G.ad v) :: .int (nI n) :: .ref (G.ad lb) :: rest)) := by
  have hD := hs_D hH
  obtain ⟨hx, hb, hown, hts, hK, hZ⟩ := hE
  obtain ⟨g1, g2, hP, hS, hok, hLA, hA⟩ := hH
  obtain ⟨k0, hk0, hL0⟩ := wl_get (iv := iv) (jv := jv) hm
  obtain ⟨k1, hk1, -⟩ := wl_get (iv := iv) (jv := jv) hvm
  have h16 : 16 ≤ ci := by omega
  rw [pE_r hk h16] at hk0
  rw [pE_o hvk (by omega)] at hk1
  have hlt := ok_ln hok hm
  subst g2
  have main : ∀ (r : vw_C) (t0 : Nat), vwCl[cv]? = some r → (tysC G.cy)[t0]? = some (G.cy ci, .object r.1) → W p l e R s m args below meth c H locs cells slots Q (F0 m pc ls (.ref (G.ad v) :: .int (nI n) :: .ref (G.ad lb) :: rest)) := by
    intro r t0 hr ht
    refine va_astq (D := D) hx hb hK hP hD hS k0 t0 k1 cv (r := r) hk0 ht hk1 hr (vp_in_nI hn hlt) hd (fun H1 locs1 hP1 _ hS1 => ?_)
    have e := wl_str (G := G) (iv := iv) (jv := jv) (n := n) (v := some v) hok.1 hL0 hk h16
    rw [show (some v).map G.ad = some (G.ad v) from rfl] at e
    rw [clamp_nI (by omega), e] at hP1
    exact kk H1 locs1 ⟨g1, rfl, hP1, hS1, setR_ok hok hvm, hLA, hA⟩
  rcases hcv with ⟨h1, h2⟩ | ⟨h1, h2⟩ | ⟨h1, h2⟩ <;> subst h1 <;> subst h2
  · exact main _ 4 rfl rfl
  · exact main _ 5 rfl rfl
  · exact main _ 6 rfl rfl
theorem rg_alen (hE : EN p c s m args cc own D cy z A) (hH : HS D cy G A H0 iv jv H locs) (hm : lb ∈ G.L) (hk : G.kd lb = ci) (h12 : 12 ≤ ci) (h20 : ci < 20) (hd : decode cc pc = .ok (.arraylength, 1))
    (kk : W p l e R s m args below meth c H locs cells slots Q (F0 m (pc + 1) ls (.int (nI (G.ln lb)) :: rest))) : W p l e R s m args below meth c H locs cells slots Q (F0 m pc ls (.ref (G.ad lb) :: rest)) := by
  obtain ⟨hx, hb, hown, hts, hK, hZ⟩ := hE
  obtain ⟨g1, g2, hP, hS, hok, hLA, hA⟩ := hH
  obtain ⟨k0, hk0, -⟩ := wl_get (iv := iv) (jv := jv) hm
  subst g2
  have ht : ∃ ty, (tysC G.cy)[ci - 12]? = some (G.cy ci, ty) := by
    rcases (show ci = 12 ∨ ci = 13 ∨ ci = 14 ∨ ci = 15 ∨ ci = 16 ∨ ci = 17 ∨ ci = 18 ∨ ci = 19 by omega) with h | h | h | h | h | h | h | h <;> subst h <;> exact ⟨_, rfl⟩
  obtain ⟨ty, ht⟩ := ht
  have hx0 : ∃ x : vp_A, pE G iv jv lb = .inl (G.cy ci, x) ∧ x.1 = G.ln lb := by
    by_cases h14 : ci = 14
    · subst h14; exact ⟨_, pE_j hk, rfl⟩
    · by_cases h16 : 16 ≤ ci
      · exact ⟨_, pE_r hk h16, rfl⟩
      · exact ⟨_, pE_i hk (by omega), rfl⟩
  obtain ⟨x, hx1, hx2⟩ := hx0
  rw [hx1] at hk0
  exact va_alen (D := D) hx hb hK hP k0 (ci - 12) hk0 ht (by rw [hx2]; rfl) hd kk
/-! ===== contracts ===== -/
abbrev rmF (fr lo mc ms : Nat) : Room := { frames := fr, cells := mc, slots := ms, locals := lo }
def gB (G0 : GW) (sz : Nat) (u : GW × IV × JV) (t : State) : Prop := okW u.1 u.2.1 u.2.2 t ∧ ∀ lb ∈ u.1.L, gA G0 sz (u.1.ad lb)
def gP (z : ZK) (G : GW) (sz : Nat) (iv : IV) (jv : JV) (U : State) : Prop := U.heap.size = sz ∧ okW G iv jv U ∧ KS z (gA G sz) U U.heap
def pI (post : Int32 → GW → IV → JV → Prop) (G : GW) : Int32 → GW × IV × JV → Prop := fun r u => post r u.1 u.2.1 u.2.2 ∧ u.1.D = G.D ∧ u.1.cy = G.cy
def pJ (post : Int64 → GW → IV → JV → Prop) (G : GW) : Int64 → GW × IV × JV → Prop := fun r u => post r u.1 u.2.1 u.2.2 ∧ u.1.D = G.D ∧ u.1.cy = G.cy
def pU (post : GW → IV → JV → Prop) (G : GW) : GW × IV × JV → Prop := fun u => post u.1 u.2.1 u.2.2 ∧ u.1.D = G.D ∧ u.1.cy = G.cy
def pR (post : Nat → GW → IV → JV → Prop) (G : GW) : Nat × GW × IV × JV → Prop := fun u => post u.1 u.2.1 u.2.2.1 u.2.2.2 ∧ u.2.1.D = G.D ∧ u.2.1.cy = G.cy
def gBR (G0 : GW) (sz : Nat) (u : Nat × GW × IV × JV) (a : Nat) (t : State) : Prop := a = u.2.1.ad u.1 ∧ gB G0 sz u.2 t
/-- int, boolean -/
def cI (l : Launch) (z : ZK) (y : MethodName) (cc : ByteArray) (nL : Nat) (rt : Option FieldType) (fr lo mc ms : Nat) (av : List Value) (G : GW) (iv : IV) (jv : JV) (post : Int32 → GW → IV → JV → Prop) : Prop :=
  ∀ sz : Nat, Met l y (.code y cc nL rt :: bw) (rmF fr lo mc ms) (va_Pc av (gP z G sz iv jv)) (va_Qi (S := GW × IV × JV) (pI post G) (gB G sz) (gA G sz)) mc ms (gA G sz)
def cJ (l : Launch) (z : ZK) (y : MethodName) (cc : ByteArray) (nL : Nat) (rt : Option FieldType) (fr lo mc ms : Nat) (av : List Value) (G : GW) (iv : IV) (jv : JV) (post : Int64 → GW → IV → JV → Prop) : Prop :=
  ∀ sz : Nat, Met l y (.code y cc nL rt :: bw) (rmF fr lo mc ms) (va_Pc av (gP z G sz iv jv)) (va_Ql (S := GW × IV × JV) (pJ post G) (gB G sz) (gA G sz)) mc ms (gA G sz)
def cV (l : Launch) (z : ZK) (y : MethodName) (cc : ByteArray) (nL : Nat) (rt : Option FieldType) (fr lo mc ms : Nat) (av : List Value) (G : GW) (iv : IV) (jv : JV) (post : GW → IV → JV → Prop) : Prop :=
  ∀ sz : Nat, Met l y (.code y cc nL rt :: bw) (rmF fr lo mc ms) (va_Pc av (gP z G sz iv jv)) (va_Qv (S := GW × IV × JV) (pU post G) (gB G sz) (gA G sz)) mc ms (gA G sz)
/-- a reference: to a label of the world -/
def cR (l : Launch) (z : ZK) (y : MethodName) (cc : ByteArray) (nL : Nat) (rt : Option FieldType) (fr lo mc ms : Nat) (av : List Value) (G : GW) (iv : IV) (jv : JV) (post : Nat → GW → IV → JV → Prop) : Prop :=
  ∀ sz : Nat, Met l y (.code y cc nL rt :: bw) (rmF fr lo mc ms) (va_Pc av (gP z G sz iv jv)) (va_Qr (S := Nat × GW × IV × JV) (pR post G) (gBR G sz) (gA G sz)) mc ms (gA G sz)
theorem gP_blind {G : GW} {sz : Nat} {iv : IV} {jv : JV} {av : List Value} : FrameBlind (va_Pc av (gP z G sz iv jv)) := fun a U g mk q => by
  obtain ⟨h0, h1, ⟨h2, h3, h4⟩, h5⟩ := q
  exact ⟨h0, h1, ⟨h2, va_K.moved (u := U) (U := U.calling g mk a) (Vm.Alike.refl U.vm) h3, h4⟩, KS.same (s := U) (U := U.calling g mk a) (H := U.heap) rfl h5⟩
theorem gA_A (hH : HS D cy G A H0 iv jv H locs) : ∀ q, gA G H.size q → A q := fun q h => by
  obtain ⟨g1, g2, hP, hS0, hok, hLA, hA⟩ := hH
  rcases h with ⟨b, hb, rfl⟩ | h
  · exact hLA b hb
  · exact hA _ (Nat.le_trans hS0.1 h)
theorem gP_at (hE : EN p c s m args cc own D cy z A) (hH : HS D cy G A s.heap iv jv H locs) (av : List Value) : ∀ U : State, U.heap = H → s.WarmedH U.vm → va_Pc av (gP z G H.size iv jv) av.toArray U := fun U hU hW => by
  have hAA := gA_A hH
  obtain ⟨g1, g2, hP, hS, hok, hLA, hA⟩ := hH
  refine ⟨rfl, by rw [hU], ⟨?_, ?_, hok⟩, ?_⟩
  · rw [hU, g1]; exact hP
  · rw [g1, g2]; exact va_K.moved hW.alike hE.2.2.2.2.1
  · rw [hU]; exact KS.moved hW (KS.narrow (KS.kept hE.2.2.2.2.2 hS.2.1) hAA)
/-- behind a call -/
theorem hs_back {G' : GW} {iv' : IV} {jv' : JV} {t : State} {H1 : Heap} {locs1 : List Loc} (hE : EN p c s m args cc own D cy z A) (hH : HS D cy G A H0 iv jv H locs) (ht : t.heap = H1) (hB : gB G H.size (G', iv', jv') t) (hD : G'.D = G.D) (hC : G'.cy = G.cy) (hS : va_S A H0 H1 locs1) : HS D cy G' A H0 iv' jv' H1 locs1 := by
  obtain ⟨g1, g2, hP, hS0, hok, hLA, hA⟩ := hH
  obtain ⟨⟨hP', -, hok'⟩, hin⟩ := hB
  dsimp only at hP' hok' hin
  refine ⟨hD.trans g1, hC.trans g2, ?_, hS, hok', fun lb h => ?_, hA⟩
  · rw [← ht, ← g1, ← hD]; exact hP'
  · rcases hin lb h with ⟨b, hb, h2⟩ | h2
    · rw [h2]; exact hLA b hb
    · exact hA _ (Nat.le_trans hS0.1 h2)
/-- the words of a call -/
def MV (own : String) (idx ci : Nat) (y : MethodName) (cc : ByteArray) (nL : Nat) (rt : Option FieldType) (n : Nat) : Prop :=
  ∃ (C : String) (T : u_T) (N : Nat), vwCl[ci]? = some (C, T, N) ∧ Cond.methodLink own idx y ∈ bw ∧ Cond.instanceMethod y ∈ bw ∧ Cond.selects C y y ∈ bw ∧ Cond.initialized C ∈ bw ∧ Cond.code y cc nL rt ∈ bw ∧ y.cls = C ∧ y.cls ≠ "java/lang/invoke/MethodHandle" ∧ y.cls ≠ "java/lang/invoke/VarHandle" ∧ (parseMethodDescriptor y.desc).map (fun d => d.parameters.length) = some n
def MI (own : String) (idx : Nat) (y : MethodName) (cc : ByteArray) (nL : Nat) (n : Nat) : Prop :=
  Cond.methodLink own idx y ∈ bw ∧ Cond.instanceMethod y ∈ bw ∧ Cond.initialized y.cls ∈ bw ∧ Cond.code y cc nL none ∈ bw ∧ y.name = "<init>" ∧ y.cls ≠ "java/lang/invoke/MethodHandle" ∧ y.cls ≠ "java/lang/invoke/VarHandle" ∧ (parseMethodDescriptor y.desc).map (fun d => d.parameters.length) = some n
def MS (own : String) (idx : Nat) (y : MethodName) (cc : ByteArray) (nL : Nat) (rt : Option FieldType) (n : Nat) : Prop :=
  Cond.methodLink own idx y ∈ bw ∧ Cond.static y ∈ bw ∧ Cond.initialized y.cls ∈ bw ∧ Cond.code y cc nL rt ∈ bw ∧ y.cls ≠ "java/lang/invoke/MethodHandle" ∧ y.cls ≠ "java/lang/invoke/VarHandle" ∧ (parseMethodDescriptor y.desc).map (fun d => d.parameters.length) = some n
section VC
variable {y : MethodName} {c2 : ByteArray} {nL nL0 n fr lo mc ms sz : Nat} {rt : Option FieldType} {Qc : Array Value → State → Outcome → State → Prop} {free : Addr → Prop} {As : List Value}
theorem rg_runV (hE : EN p c s m args cc own D cy z A) (hml : c.maxLocals = nL0) (hH : HS D cy G A s.heap iv jv H locs) (hw : MV own idx ci y c2 nL rt n) (hM : Met l y (.code y c2 nL rt :: bw) (rmF fr lo mc ms) (va_Pc (.ref (G.ad lb) :: As) (gP z G H.size iv jv)) Qc mc ms free) (hm : lb ∈ G.L) (hk : G.kd lb = ci) (h12 : ci < 12) (hR : fr + 1 ≤ R.frames ∧ 8 + (nL + 11) + lo ≤ R.locals) (hn : As.length = n) (hsz : ls.size = nL0) (hr8 : (rest.map fun v => v.category).sum ≤ 8) (hd : decode cc pc = .ok (.invokevirtual idx, 3)) (hf : cells + mc ≤ R.cells ∧ slots + ms ≤ R.slots) :
    va_Run p l e R s m args below meth c H locs cells slots mc ms (F0 m pc ls (As.reverse ++ .ref (G.ad lb) :: rest)) rest (Qc (Value.ref (G.ad lb) :: As).toArray) free := by
  obtain ⟨C, T, N, hc, w1, w2, w3, w4, w5, hyC, hy1, hy2, hyn⟩ := hw
  have hE' := hE
  obtain ⟨hx, hb, hown, hts, hK, hZ⟩ := hE
  obtain ⟨k0, hk0, -⟩ := wl_get (iv := iv) (jv := jv) hm
  rw [pE_o hk h12] at hk0
  have hgi : GoodIn bw (wsV own idx C y (.code y c2 nL rt :: bw)) := gi_app (fun w hw => by
    simp only [List.mem_cons, List.not_mem_nil, or_false] at hw
    rcases hw with rfl | rfl | rfl | rfl <;> assumption) (gi_code w5)
  exact va_runV (As := As) (rest := rest) ⟨hx, hb, hml, hown, hts⟩ hM (cwV n hts hgi rfl rfl rfl ⟨hyC, hy1, hy2, hyn⟩ hR) ⟨gP_blind, va_recv hK hH.2.2.1 hc hk0, gP_at hE' hH _⟩ rfl hn hsz rfl (lv_room (m := m) (pc := pc) (ls := ls) (rest := As.reverse ++ .ref (G.ad lb) :: rest) hr8) hd hf
/-- the words of a call of a class outside the worlds -/
def MX (own : String) (idx : Nat) (C : String) (y : MethodName) (cc : ByteArray) (nL : Nat) (rt : Option FieldType) (n : Nat) : Prop :=
  Cond.methodLink own idx y ∈ bw ∧ Cond.instanceMethod y ∈ bw ∧ Cond.selects C y y ∈ bw ∧ Cond.initialized C ∈ bw ∧ Cond.code y cc nL rt ∈ bw ∧ y.cls = C ∧ y.cls ≠ "java/lang/invoke/MethodHandle" ∧ y.cls ≠ "java/lang/invoke/VarHandle" ∧ (parseMethodDescriptor y.desc).map (fun d => d.parameters.length) = some n
theorem rg_runX {C : String} {b : Addr} (hE : EN p c s m args cc own D cy z A) (hml : c.maxLocals = nL0) (hH : HS D cy G A s.heap iv jv H locs) (hw : MX own idx C y c2 nL rt n) (hM : Met l y (.code y c2 nL rt :: bw) (rmF fr lo mc ms) (va_Pc (.ref b :: As) (gP z G H.size iv jv)) Qc mc ms free) (hrc : ∃ cell : Cell, H[b]? = some cell ∧ cell.vm.isStatics = false ∧ s.vm.findClass C = some cell.cls) (hR : fr + 1 ≤ R.frames ∧ 8 + (nL + 11) + lo ≤ R.locals) (hn : As.length = n) (hsz : ls.size = nL0) (hr8 : (rest.map fun v => v.category).sum ≤ 8) (hd : decode cc pc = .ok (.invokevirtual idx, 3)) (hf : cells + mc ≤ R.cells ∧ slots + ms ≤ R.slots) :
    va_Run p l e R s m args below meth c H locs cells slots mc ms (F0 m pc ls (As.reverse ++ .ref b :: rest)) rest (Qc (Value.ref b :: As).toArray) free := by
  obtain ⟨w1, w2, w3, w4, w5, hyC, hy1, hy2, hyn⟩ := hw
  have hE' := hE
  obtain ⟨hx, hb, hown, hts, hK, hZ⟩ := hE
  have hgi : GoodIn bw (wsV own idx C y (.code y c2 nL rt :: bw)) := gi_app (fun w hw => by
    simp only [List.mem_cons, List.not_mem_nil, or_false] at hw
    rcases hw with rfl | rfl | rfl | rfl <;> assumption) (gi_code w5)
  exact va_runV (As := As) (rest := rest) ⟨hx, hb, hml, hown, hts⟩ hM (cwV n hts hgi rfl rfl rfl ⟨hyC, hy1, hy2, hyn⟩ hR) ⟨gP_blind, hrc, gP_at hE' hH _⟩ rfl hn hsz rfl (lv_room (m := m) (pc := pc) (ls := ls) (rest := As.reverse ++ .ref b :: rest) hr8) hd hf
theorem rg_runI (hE : EN p c s m args cc own D cy z A) (hml : c.maxLocals = nL0) (hH : HS D cy G A s.heap iv jv H locs) (hw : MI own idx y c2 nL n) (hM : Met l y (.code y c2 nL none :: bw) (rmF fr lo mc ms) (va_Pc (.ref (G.ad lb) :: As) (gP z G H.size iv jv)) Qc mc ms free) (hR : fr + 1 ≤ R.frames ∧ 8 + (nL + 11) + lo ≤ R.locals) (hn : As.length = n) (hsz : ls.size = nL0) (hr8 : (rest.map fun v => v.category).sum ≤ 8) (hd : decode cc pc = .ok (.invokespecial idx, 3)) (hf : cells + mc ≤ R.cells ∧ slots + ms ≤ R.slots) :
    va_Run p l e R s m args below meth c H locs cells slots mc ms (F0 m pc ls (As.reverse ++ .ref (G.ad lb) :: rest)) rest (Qc (Value.ref (G.ad lb) :: As).toArray) free := by
  obtain ⟨w1, w2, w4, w5, hnm, hy1, hy2, hyn⟩ := hw
  have hE' := hE
  obtain ⟨hx, hb, hown, hts, hK, hZ⟩ := hE
  exact va_runI (As := As) (rest := rest) ⟨hx, hb, hml, hown, hts⟩ hM (cwI n hts (gi_code w5) rfl rfl rfl (hts _ w4) (hts _ w1) (hts _ w2) hnm ⟨hy1, hy2, hyn⟩ hR) ⟨gP_blind, gP_at hE' hH _⟩ rfl hn hsz rfl (lv_room (m := m) (pc := pc) (ls := ls) (rest := As.reverse ++ .ref (G.ad lb) :: rest) hr8) hd hf
theorem rg_runS (hE : EN p c s m args cc own D cy z A) (hml : c.maxLocals = nL0) (hH : HS D cy G A s.heap iv jv H locs) (hw : MS own idx y c2 nL rt n) (hM : Met l y (.code y c2 nL rt :: bw) (rmF fr lo mc ms) (va_Pc As (gP z G H.size iv jv)) Qc mc ms free) (hR : fr + 1 ≤ R.frames ∧ 8 + (nL + 11) + lo ≤ R.locals) (hn : As.length = n) (hsz : ls.size = nL0) (hr8 : (rest.map fun v => v.category).sum ≤ 8) (hd : decode cc pc = .ok (.invokestatic idx, 3)) (hf : cells + mc ≤ R.cells ∧ slots + ms ≤ R.slots) :
    va_Run p l e R s m args below meth c H locs cells slots mc ms (F0 m pc ls (As.reverse ++ rest)) rest (Qc As.toArray) free := by
  obtain ⟨w1, w2, w4, w5, hy1, hy2, hyn⟩ := hw
  have hE' := hE
  obtain ⟨hx, hb, hown, hts, hK, hZ⟩ := hE
  exact va_runS (As := As) (rest := rest) ⟨hx, hb, hml, hown, hts⟩ hM ⟨callB_of n hts (gi_code w5) rfl rfl rfl (hts _ w4) (hts _ w1) ⟨hy1, hy2, hyn⟩ hR, hts _ w2⟩ ⟨gP_blind, gP_at hE' hH _⟩ rfl hn hsz rfl (lv_room (m := m) (pc := pc) (ls := ls) (rest := As.reverse ++ rest) hr8) hd hf
/-- the words of a static call of a nest mate's private method -/
def MN (own : String) (idx : Nat) (y : MethodName) (cc : ByteArray) (nL : Nat) (rt : Option FieldType) (n : Nat) : Prop :=
  (∃ h, Cond.methodLinkNest own idx y h ∈ nwL) ∧ Cond.static y ∈ bw ∧ Cond.initialized y.cls ∈ bw ∧ Cond.code y cc nL rt ∈ bw ∧ y.cls ≠ "java/lang/invoke/MethodHandle" ∧ y.cls ≠ "java/lang/invoke/VarHandle" ∧ (parseMethodDescriptor y.desc).map (fun d => d.parameters.length) = some n
theorem rg_runN (hE : EN p c s m args cc own D cy z A) (hml : c.maxLocals = nL0) (hH : HS D cy G A s.heap iv jv H locs) (hw : MN own idx y c2 nL rt n) (hM : Met l y (.code y c2 nL rt :: bw) (rmF fr lo mc ms) (va_Pc As (gP z G H.size iv jv)) Qc mc ms free) (hR : fr + 1 ≤ R.frames ∧ 8 + (nL + 11) + lo ≤ R.locals) (hn : As.length = n) (hsz : ls.size = nL0) (hr8 : (rest.map fun v => v.category).sum ≤ 8) (hd : decode cc pc = .ok (.invokestatic idx, 3)) (hf : cells + mc ≤ R.cells ∧ slots + ms ≤ R.slots) :
    va_Run p l e R s m args below meth c H locs cells slots mc ms (F0 m pc ls (As.reverse ++ rest)) rest (Qc As.toArray) free := by
  obtain ⟨⟨h, w1⟩, w2, w4, w5, hy1, hy2, hyn⟩ := hw
  have hE' := hE
  obtain ⟨hx, hb, hown, hts, hK, hZ⟩ := hE
  exact va_runSN (As := As) (rest := rest) ⟨hx, hb, hml, hown, hts⟩ hM ⟨va_cnB (host := h) n hts (gi_code w5) rfl rfl rfl (hZ.2.2.2.2.2.2.1 _ w1) (hts _ w4) ⟨hy1, hy2, hyn⟩ hR, hts _ w2, trivial⟩ ⟨gP_blind, gP_at hE' hH _⟩ rfl hn hsz rfl (lv_room (m := m) (pc := pc) (ls := ls) (rest := As.reverse ++ rest) hr8) hd hf
/-- a run comes back: int -/
theorem rg_backI {post : Int32 → GW → IV → JV → Prop} {st : List Value} {a : Array Value} (hE : EN p c s m args cc own D cy z A) (hH : HS D cy G A H0 iv jv H locs)
    (hr : va_Run p l e R s m args below meth c H locs cells slots mc ms (F0 m pc ls st) rest (va_Qi (S := GW × IV × JV) (pI post G) (gB G H.size) (gA G H.size) a) (gA G H.size))
    (kk : ∀ (r : Int32) (G' : GW) (iv' : IV) (jv' : JV) (H1 : Heap) (locs1 : List Loc), post r G' iv' jv' → HS D cy G' A H0 iv' jv' H1 locs1 → W p l e R s m args below meth c H1 locs1 (cells + mc) (slots + ms) Q (F0 m (pc + 3) ls (.int r :: rest))) : W p l e R s m args below meth c H locs cells slots Q (F0 m pc ls st) :=
  va_calli hr hH.2.2.2.1 (fun q _ h => gA_A hH q h) (gA_A hH) (fun r u t H1 locs1 ht hvm hw hB hz1 hk1 hS => kk r u.1 u.2.1 u.2.2 H1 locs1 hw.1 (hs_back hE hH ht hB hw.2.1 hw.2.2 hS))
theorem rg_backJ {post : Int64 → GW → IV → JV → Prop} {st : List Value} {a : Array Value} (hE : EN p c s m args cc own D cy z A) (hH : HS D cy G A H0 iv jv H locs)
    (hr : va_Run p l e R s m args below meth c H locs cells slots mc ms (F0 m pc ls st) rest (va_Ql (S := GW × IV × JV) (pJ post G) (gB G H.size) (gA G H.size) a) (gA G H.size))
    (kk : ∀ (r : Int64) (G' : GW) (iv' : IV) (jv' : JV) (H1 : Heap) (locs1 : List Loc), post r G' iv' jv' → HS D cy G' A H0 iv' jv' H1 locs1 → W p l e R s m args below meth c H1 locs1 (cells + mc) (slots + ms) Q (F0 m (pc + 3) ls (.long r :: rest))) : W p l e R s m args below meth c H locs cells slots Q (F0 m pc ls st) :=
  va_calll hr hH.2.2.2.1 (fun q _ h => gA_A hH q h) (gA_A hH) (fun r u t H1 locs1 ht hvm hw hB hz1 hk1 hS => kk r u.1 u.2.1 u.2.2 H1 locs1 hw.1 (hs_back hE hH ht hB hw.2.1 hw.2.2 hS))
theorem rg_backV {post : GW → IV → JV → Prop} {st : List Value} {a : Array Value} (hE : EN p c s m args cc own D cy z A) (hH : HS D cy G A H0 iv jv H locs)
    (hr : va_Run p l e R s m args below meth c H locs cells slots mc ms (F0 m pc ls st) rest (va_Qv (S := GW × IV × JV) (pU post G) (gB G H.size) (gA G H.size) a) (gA G H.size))
    (kk : ∀ (G' : GW) (iv' : IV) (jv' : JV) (H1 : Heap) (locs1 : List Loc), post G' iv' jv' → HS D cy G' A H0 iv' jv' H1 locs1 → W p l e R s m args below meth c H1 locs1 (cells + mc) (slots + ms) Q (F0 m (pc + 3) ls rest)) : W p l e R s m args below meth c H locs cells slots Q (F0 m pc ls st) :=
  va_callv hr hH.2.2.2.1 (fun q _ h => gA_A hH q h) (gA_A hH) (fun u t H1 locs1 ht hvm hw hB hz1 hk1 hS => kk u.1 u.2.1 u.2.2 H1 locs1 hw.1 (hs_back hE hH ht hB hw.2.1 hw.2.2 hS))
theorem rg_backR {post : Nat → GW → IV → JV → Prop} {st : List Value} {a : Array Value} (hE : EN p c s m args cc own D cy z A) (hH : HS D cy G A H0 iv jv H locs)
    (hr : va_Run p l e R s m args below meth c H locs cells slots mc ms (F0 m pc ls st) rest (va_Qr (S := Nat × GW × IV × JV) (pR post G) (gBR G H.size) (gA G H.size) a) (gA G H.size))
    (kk : ∀ (r : Nat) (G' : GW) (iv' : IV) (jv' : JV) (H1 : Heap) (locs1 : List Loc), post r G' iv' jv' → HS D cy G' A H0 iv' jv' H1 locs1 → W p l e R s m args below meth c H1 locs1 (cells + mc) (slots + ms) Q (F0 m (pc + 3) ls (.ref (G'.ad r) :: rest))) : W p l e R s m args below meth c H locs cells slots Q (F0 m pc ls st) :=
  va_callr hr hH.2.2.2.1 (fun q _ h => gA_A hH q h) (gA_A hH) (fun u a t H1 locs1 ht hvm hw hB hz1 hk1 hS => by
    obtain ⟨rfl, hB⟩ := hB
    exact kk u.1 u.2.1 u.2.2.1 u.2.2.2 H1 locs1 hw.1 (hs_back hE hH ht hB hw.2.1 hw.2.2 hS))
/-- ends -/
theorem gB_at {G' : GW} {iv' : IV} {jv' : JV} {t : State} (hE : EN p c s m args cc own G.D G.cy z (gA G sz)) (hH : HS G.D G.cy G' (gA G sz) H0 iv' jv' H locs) (ht : t.heap = H) (hW : s.WarmedH t.vm) : gB G sz (G', iv', jv') t := by
  obtain ⟨g1, g2, hP, hS0, hok, hLA, hA⟩ := hH
  refine ⟨⟨?_, ?_, hok⟩, hLA⟩
  · dsimp only; rw [ht, g1]; exact hP
  · dsimp only; rw [g1, g2]; exact va_K.moved hW.alike hE.2.2.2.2.1
theorem rg_iret {G' : GW} {iv' : IV} {jv' : JV} {post : Int32 → GW → IV → JV → Prop} {v : Int32} {ty : FieldType} (hE : EN p c s m args cc own G.D G.cy z (gA G sz)) (hr : meth.sig.returnType = some ty) (hn : narrow ty (.int v) = .int v) (hlk : meth.locks = false) (hH : HS G.D G.cy G' (gA G sz) s.heap iv' jv' H locs) (hp : post v G' iv' jv') (hd : decode cc pc = .ok (.ireturn, 1)) :
    W p l e R s m args below meth c H locs cells slots (MQ below (va_Qi (S := GW × IV × JV) (pI post G) (gB G sz) (gA G sz)) args s cells slots (gA G sz)) (F0 m pc ls [.int v]) :=
  W.zret hE.1 hE.2.1 hr hn (fun t ht hW => ⟨⟨v, (G', iv', jv'), rfl, ⟨hp, hH.1, hH.2.1⟩, gB_at hE hH ht hW⟩, hH.2.2.2.1.F ht⟩) hH.2.2.2.1.2.2 hd hlk
theorem rg_lret {G' : GW} {iv' : IV} {jv' : JV} {post : Int64 → GW → IV → JV → Prop} {v : Int64} (hE : EN p c s m args cc own G.D G.cy z (gA G sz)) (hr : meth.sig.returnType = some .long) (hlk : meth.locks = false) (hH : HS G.D G.cy G' (gA G sz) s.heap iv' jv' H locs) (hp : post v G' iv' jv') (hd : decode cc pc = .ok (.lreturn, 1)) :
    W p l e R s m args below meth c H locs cells slots (MQ below (va_Ql (S := GW × IV × JV) (pJ post G) (gB G sz) (gA G sz)) args s cells slots (gA G sz)) (F0 m pc ls [.long v]) :=
  W.lret hE.1 hE.2.1 hr (fun t ht hW => ⟨⟨v, (G', iv', jv'), rfl, ⟨hp, hH.1, hH.2.1⟩, gB_at hE hH ht hW⟩, hH.2.2.2.1.F ht⟩) hH.2.2.2.1.2.2 hd hlk
theorem rg_vret {G' : GW} {iv' : IV} {jv' : JV} {post : GW → IV → JV → Prop} (hE : EN p c s m args cc own G.D G.cy z (gA G sz)) (hr : meth.sig.returnType = none) (hlk : meth.locks = false) (hH : HS G.D G.cy G' (gA G sz) s.heap iv' jv' H locs) (hp : post G' iv' jv') (hd : decode cc pc = .ok (.return_, 1)) :
    W p l e R s m args below meth c H locs cells slots (MQ below (va_Qv (S := GW × IV × JV) (pU post G) (gB G sz) (gA G sz)) args s cells slots (gA G sz)) (F0 m pc ls []) :=
  W.vret hE.1 hE.2.1 hr (fun t ht hW => ⟨⟨(G', iv', jv'), rfl, ⟨hp, hH.1, hH.2.1⟩, gB_at hE hH ht hW⟩, hH.2.2.2.1.F ht⟩) hH.2.2.2.1.2.2 hd hlk
theorem rg_aret {G' : GW} {iv' : IV} {jv' : JV} {post : Nat → GW → IV → JV → Prop} {v : Nat} {ty : FieldType} (hE : EN p c s m args cc own G.D G.cy z (gA G sz)) (hr : meth.sig.returnType = some ty) (hrt : (∃ n, ty = .object n) ∨ ∃ t, ty = .array t) (hlk : meth.locks = false) (hH : HS G.D G.cy G' (gA G sz) s.heap iv' jv' H locs) (hp : post v G' iv' jv') (hd : decode cc pc = .ok (.areturn, 1)) :
    W p l e R s m args below meth c H locs cells slots (MQ below (va_Qr (S := Nat × GW × IV × JV) (pR post G) (gBR G sz) (gA G sz)) args s cells slots (gA G sz)) (F0 m pc ls [.ref (G'.ad v)]) :=
  W.aret hE.1 hE.2.1 hr hrt (Or.inr ⟨_, rfl⟩) (fun t ht hW => ⟨⟨(v, G', iv', jv'), G'.ad v, rfl, ⟨hp, hH.1, hH.2.1⟩, rfl, gB_at hE hH ht hW⟩, hH.2.2.2.1.F ht⟩) hH.2.2.2.1.2.2 hd hlk
/-- the start of a body -/
theorem rg_entry {av : List Value} {P : Array Value → State → Outcome → State → Prop} (hy : plainName y.cls = true) (hsl : (lg_sl av).length ≤ nL)
    (body : ∀ (p : Program) (e : Env) (s : State) (m : MethodId) (below : List Frame) (meth : Method) (c : Code) (ls : Array Slot), EN p c s m av.toArray c2 y.cls G.D G.cy z (gA G sz) → meth.sig.returnType = rt → meth.locks = false → c.maxLocals = nL → meth.name = y.name → lv_has ls nL (lv_args 0 av) → s.heap.size = sz → HS G.D G.cy G (gA G sz) s.heap iv jv s.heap [] →
      W p l e (rmF fr lo mc ms) s m av.toArray below meth c s.heap [] 0 0 (MQ below P av.toArray s mc ms (gA G sz)) (F0 m 0 ls [])) :
    Met l y (.code y c2 nL rt :: bw) (rmF fr lo mc ms) (va_Pc av (gP z G sz iv jv)) P mc ms (gA G sz) := by
  refine Met.ofW (cc := c2) (maxL := nL) (ret := rt) hy rfl ?_
  intro p e s m args below meth c s₁ B hml hv
  obtain ⟨rfl, hsz, ⟨hP, hK, hok⟩, hZ⟩ := hv
  have hts := atoms_spec (ws := .code y c2 nL rt :: bw) B.pre
  have hown : s.vm.findClass y.cls = some m.cls := findClass_of_methodNamed B.named
  have hl := lv_entry av (n := nL) hsl
  rw [lg_entry_eq]
  exact body p e s m below meth c _ ⟨B.exec, B.bytes, hown, fun w hw => hts w (List.mem_cons_of_mem _ hw), hK, hZ⟩ B.returns B.notSynchronized hml (name_of_methodNamed B.named B.method).1 hl hsz
    ⟨rfl, rfl, hP, va_S.rf, hok, fun lb h => Or.inl ⟨lb, h, rfl⟩, fun q h => Or.inr (by rw [← hsz]; exact h)⟩
end VC
end R2
