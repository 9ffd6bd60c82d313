def tysC (cy : Nat → ClassId) : List (ClassId × FieldType) := [(cy 12, .byte), (cy 13, .int), (cy 14, .long), (cy 15, .boolean), (cy 16, .object RX0), (cy 17, .object RX5), (cy 18, .object RX7), (cy 19, .array .int)]
/-- a world that stands for itself -/
def GW.ok (G : GW) : Prop := (G.L.map G.ad).Nodup ∧ (∀ lb ∈ G.L, G.ln lb < 2147483648) ∧ G.cl
def okW (G : GW) (iv : IV) (jv : JV) (U : State) : Prop := va_P G.D vwCl (wl G iv jv) U.heap ∧ va_K G.D vwCl (tysC G.cy) U ∧ G.ok
def gA (G : GW) (sz : Nat) : Nat → Prop := fun q => (∃ lb ∈ G.L, q = G.ad lb) ∨ sz ≤ q
/-! ===== what lies outside: the texts, two statics of Throwable ===== -/
abbrev ZK : Type := (Nat → Nat) × (Nat → Nat)
def sT : List (String × Nat × String) := [("ExampleTables", 246, "the tape has not so many bytes"), ("ExampleTables$Lexer", 71, "input"), ("ExampleTables$Lexer", 77, "output"), ("ExampleTables$Lexer", 79, "row"), ("ExampleTables$Lexer", 81, "when"), ("ExampleTables$Lexer", 83, "and"), ("ExampleTables$Lexer", 85, "then"), ("ExampleTables$Lexer", 87, "else"), ("ExampleTables", 248, "no such TABLE"), ("ExampleTables", 142, "no such what"), ("ExampleTables", 252, "there is none"), ("ExampleTables$Out", 57, " if"), ("ExampleTables$Out", 69, " and "), ("ExampleTables$Out", 71, " "), ("ExampleTables$Out", 81, " is "), ("ExampleTables$Out", 83, "\n"), ("ExampleTables$Out", 85, " always\n"), ("ExampleTables", 250, "no such PROGRAM"), ("ExampleTables", 235, "PROGRAMS of two TABLES"), ("ExampleTablesModel", 153, "output"), ("ExampleTablesModel", 147, "input"), ("ExampleTablesModel", 155, "row"), ("ExampleTablesModel", 157, "when"), ("ExampleTablesModel", 159, "and"), ("ExampleTablesModel", 161, "then"), ("ExampleTablesModel", 163, "else"), ("ExampleTablesModel", 296, " if "), ("ExampleTablesModel", 298, " and "), ("ExampleTablesModel", 304, " is "), ("ExampleTablesModel", 306, " if always")]
def sByt (i : Nat) : List Int32 := ((sT.getD i ("", 0, "")).2.2.toList.map (fun ch => Int32.ofNat ch.toNat))
def sLen (i : Nat) : Nat := (sByt i).length
theorem ix_bare (vm : Vm) (comp : ClassId) : (vm.bare.classes.findIdx? fun (x : Class) => match x.kind with | .array component _ => component == comp | _ => false) = (vm.classes.findIdx? fun (x : Class) => match x.kind with | .array component _ => component == comp | _ => false) := by
  simp only [Vm.bare, Array.findIdx?_map]
  rfl
theorem aoA_spec {args : Array Value} {first s : State} {o : Option Outcome} {idx : List Nat} {t : FieldType} (h : (Cond.arrayOver (.array t)).holds args first o s idx = true) :
    ∃ comp c k, s.vm.findClass (FieldType.array t).toString = some comp ∧ (s.vm.classes.findIdx? fun x => match x.kind with | .array component _ => component == comp | _ => false) = some c ∧ s.vm.classes[c]? = some k ∧ k.kind = .array comp (.array t) ∧
      s.vm.findClass ("[" ++ (FieldType.array t).toString) = some c := by
  simp only [Cond.holds, Cond.value, beq_iff_eq] at h
  cases hc : s.vm.findClass (FieldType.array t).toString with
  | none => simp [hc] at h
  | some comp =>
    simp only [hc, Option.bind_some, Option.bind_eq_some_iff, Option.map_eq_some_iff] at h
    obtain ⟨c, hi, k, hk, hb⟩ := h
    obtain ⟨hlt, hp, -⟩ := Array.findIdx?_eq_some_iff_getElem.mp hi
    have hkk : s.vm.classes[c] = k := (Array.getElem?_eq_some_iff.mp hk).2
    rw [hkk] at hp
    cases hkind : k.kind with
    | array component ty =>
      rw [hkind] at hb hp
      simp at hb hp
      exact ⟨comp, c, k, rfl, hi, hk, by rw [hkind, hp, hb.1], hb.2⟩
    | _ => rw [hkind] at hb; simp at hb
theorem aoA_moved {t : FieldType} {u U : State} (hvm : u.vm.Alike U.vm) (h : va_AOA t u) : va_AOA t U := by
  obtain ⟨comp, c, k, h1, h2, h3, h4, h5⟩ := aoA_spec h
  obtain ⟨k', hk', he⟩ := hvm.2.2 _ _ h3
  have hi : (U.vm.classes.findIdx? fun (x : Class) => match x.kind with | .array component _ => component == comp | _ => false) = some c := by
    rw [← ix_bare]
    first | rw [hvm.bare_eq] | rw [← hvm.bare_eq]
    rw [ix_bare]
    exact h2
  have hkind : k'.kind = .array comp (.array t) := by rw [he]; exact h4
  have f1 : U.vm.findClass (FieldType.array t).toString = some comp := by rw [hvm.findClass]; exact h1
  have f2 : U.vm.findClass ("[" ++ (FieldType.array t).toString) = some c := by rw [hvm.findClass]; exact h5
  unfold va_AOA Cond.before Cond.holds
  simp only [Cond.value]
  rw [f1, Option.bind_some]
  refine (congrArg (fun o : Option Nat => (o.bind (fun c => (U.vm.classes[c]?).map fun (k : Class) => match k.kind with | .array _ ty => decide (ty = FieldType.array t) && decide (U.vm.findClass ("[" ++ (FieldType.array t).toString) = some c) | _ => false) == some true)) hi).trans ?_
  simp [hk', hkind, f2]
def nwk (w : Cond) : Bool := match w with
  | .methodLinkNest .. => true
  | .declares _ => true
  | .castable _ _ => true
  | .arrayOver (.object _) => true
  | .arrayOver (.array _) => true
  | _ => false
theorem nw1_moved {s U : State} (hW : s.WarmedH U.vm) {w : Cond} (h1 : va_Nw w s) (h2 : nwk w = true) : va_Nw w U := by
  cases w with
  | arrayOver ty =>
    cases ty with
    | object C => exact va_AO.moved hW.alike h1
    | array t => exact aoA_moved hW.alike h1
    | _ => cases h2
  | methodLinkNest => exact va_Nw.warmM hW h1
  | declares => exact va_Nw.warmD hW h1
  | castable => exact va_Nw.warmC hW h1
  | _ => cases h2
theorem nw1_same {s U : State} (hv : U.vm = s.vm) {w : Cond} (h1 : va_Nw w s) (h2 : nwk w = true) : va_Nw w U := by
  cases w with
  | arrayOver ty =>
    cases ty with
    | object C => exact va_AO.moved (by rw [hv]; exact Vm.Alike.refl _) h1
    | array t => exact aoA_moved (by rw [hv]; exact Vm.Alike.refl _) h1
    | _ => cases h2
  | methodLinkNest => exact va_Nw.same rfl hv.symm h1
  | declares => exact va_Nw.same rfl hv.symm h1
  | castable => exact va_Nw.same rfl hv.symm h1
  | _ => cases h2
def nwL : List Cond := lw_tbl.filter nwk
/-- words that outlive a call but are none of the good ones -/
def NW (U : State) : Prop := (∀ w ∈ nwL, va_Nw w U) ∧ va_Nc "java/lang/IllegalArgumentException" "java/util/NoSuchElementException" U
theorem NW.moved {s U : State} (hW : s.WarmedH U.vm) (h : NW s) : NW U := ⟨fun w hw => nw1_moved hW (h.1 w hw) (List.mem_filter.mp hw).2, h.2.moved hW.alike⟩
theorem NW.same {s U : State} (hv : U.vm = s.vm) (h : NW s) : NW U := ⟨fun w hw => nw1_same hv (h.1 w hw) (List.mem_filter.mp hw).2, h.2.moved (by rw [hv]; exact Vm.Alike.refl _)⟩
def KS (z : ZK) (A : Nat → Prop) (U : State) (H : Heap) : Prop :=
  (∀ i, i < 30 → vk_S 1 [sLen i] [sByt i] (fun _ => z.1 i) (fun _ => z.2 i) A U H) ∧ (∀ i, i < 30 → vk_R (sT.getD i ("", 0, "")).1 (sT.getD i ("", 0, "")).2.1 (sT.getD i ("", 0, "")).2.2 (z.1 i) U) ∧
  vx_Zq Bundle.tN "UNASSIGNED_STACK" Bundle.steD A U H ∧ vx_Zq Bundle.tN "SUPPRESSED_SENTINEL" Bundle.listD A U H ∧ va_Z "java/lang/String" "COMPACT_STRINGS" "Z" (.int 1) A U H ∧ va_Zq "jdk/internal/util/Preconditions" "SIOOBE_FORMATTER" "Ljava/util/function/BiFunction;" A U H ∧ NW U
theorem KS.moved {z : ZK} {A : Nat → Prop} {s U : State} {H : Heap} (hW : s.WarmedH U.vm) (h : KS z A s H) : KS z A U H :=
  ⟨fun i hi => vk_S.moved hW.alike (h.1 i hi), fun i hi => vk_R.warm hW (h.2.1 i hi), vx_Zq.moved hW.alike h.2.2.1, vx_Zq.moved hW.alike h.2.2.2.1, va_Z.moved hW.alike h.2.2.2.2.1, va_Zq.moved hW.alike h.2.2.2.2.2.1, h.2.2.2.2.2.2.moved hW⟩
theorem KS.same {z : ZK} {A : Nat → Prop} {s U : State} {H : Heap} (hv : U.vm = s.vm) (h : KS z A s H) : KS z A U H := by
  have ha : s.vm.Alike U.vm := by rw [hv]; exact Vm.Alike.refl _
  exact ⟨fun i hi => vk_S.moved ha (h.1 i hi), fun i hi => vk_R.same hv (h.2.1 i hi), vx_Zq.moved ha h.2.2.1, vx_Zq.moved ha h.2.2.2.1, va_Z.moved ha h.2.2.2.2.1, va_Zq.moved ha h.2.2.2.2.2.1, h.2.2.2.2.2.2.same hv⟩
theorem KS.kept {z : ZK} {A : Nat → Prop} {U : State} {H H1 : Heap} (h : KS z A U H) (hq : ∀ a : Nat, a < H.size → ¬ A a → H1[a]? = H[a]?) : KS z A U H1 :=
  ⟨fun i hi => vk_S.kept (h.1 i hi) hq, h.2.1, vx_Zq.kept h.2.2.1 hq, vx_Zq.kept h.2.2.2.1 hq, va_Z.kept h.2.2.2.2.1 hq, va_Zq.kept h.2.2.2.2.2.1 hq, h.2.2.2.2.2.2⟩
theorem KS.narrow {z : ZK} {A B : Nat → Prop} {U : State} {H : Heap} (h : KS z A U H) (hAB : ∀ q, B q → A q) : KS z B U H :=
  ⟨fun i hi => vk_S.narrow (h.1 i hi) hAB, h.2.1, vx_Zq.narrow h.2.2.1 hAB, vx_Zq.narrow h.2.2.2.1 hAB, va_Z.narrow h.2.2.2.2.1 hAB, va_Zq.narrow h.2.2.2.2.2.1 hAB, h.2.2.2.2.2.2⟩
/-- what a method knows of the machine -/
def EN (p : Program) (c : Code) (s : State) (m : MethodId) (args : Array Value) (cc : ByteArray) (own : String) (D : va_G) (cy : Nat → ClassId) (z : ZK) (A : Nat → Prop) : Prop :=
  p.tables.exec = Jvm.exec ∧ c.code = cc ∧ s.vm.findClass own = some m.cls ∧ (∀ w ∈ bw, w.before args s = true) ∧ va_K D vwCl (tysC cy) s ∧ KS z A s s.heap
/-- what a method knows of the heap now -/
def HS (D : va_G) (cy : Nat → ClassId) (G : GW) (A : Nat → Prop) (H0 : Heap) (iv : IV) (jv : JV) (H : Heap) (locs : List Loc) : Prop :=
  G.D = D ∧ G.cy = cy ∧ va_P D vwCl (wl G iv jv) H ∧ va_S A H0 H locs ∧ G.ok ∧ (∀ lb ∈ G.L, A (G.ad lb)) ∧ (∀ q, H0.size ≤ q → A q)
/-- of a field's place: the word of the link, the class's table -/
def CF (ci : Nat) : Prop := ci < 12 ∧ ∃ (C : String) (T : u_T) (ty0 : Nat → FieldType), vwCl[ci]? = some (C, T, nsl ci) ∧ (∀ w ∈ u_ws C T (nsl ci), w ∈ bw) ∧ (∀ k, k < nsl ci → parseFieldDescriptor (T k).2.2.1 = some (ty0 k)) ∧ (∀ a, a < nsl ci → ∀ b, b < nsl ci → a ≠ b → (T a).2.1 ≠ (T b).2.1) ∧ (∀ k, k < nsl ci → (sty ci k = 0 → ty0 k = .int) ∧ (sty ci k = 1 → ty0 k = .long) ∧ (sty ci k = 2 → (∃ n, ty0 k = .object n) ∨ ∃ t, ty0 k = .array t))
def FL (own : String) (idx ci k : Nat) : Prop := k < nsl ci ∧ ∃ (C : String) (T : u_T), vwCl[ci]? = some (C, T, nsl ci) ∧ Cond.fieldLink own idx (T k).1 (T k).2.1 (T k).2.2.1 ∈ bw
def FN (ci k : Nat) (f : Bool) : Prop := ∃ (C : String) (T : u_T), vwCl[ci]? = some (C, T, nsl ci) ∧ (T k).2.2.2 = f
def FO (ci k : Nat) (own : String) : Prop := ∃ (C : String) (T : u_T), vwCl[ci]? = some (C, T, nsl ci) ∧ (T k).1 = own
theorem clamp_nI {n : Nat} (h : n < 2147483648) : (nI n).toNatClampNeg = n := nI_clamp h
section R1
variable {p : Program} {l : Launch} {e : Env} {R : Room} {s : State} {m : MethodId} {args : Array Value} {below : List Frame} {meth : Method} {c : Code} {H : Heap} {locs : List Loc} {cells slots : Nat} {Q : State → Prop}
variable {cc : ByteArray} {pc : Nat} {ls : Array Slot} {rest : List Value} {D : va_G} {cy : Nat → ClassId} {G : GW} {A : Nat → Prop} {H0 : Heap} {iv : IV} {jv : JV} {own : String} {lb ci k idx : Nat} {z : ZK}
theorem rg_geti (hE : EN p c s m args cc own D cy z A) (hH : HS D cy G A H0 iv jv H locs) (hC : CF ci) (hF : FL own idx ci k) (hs : sty ci k = 0) (hm : lb ∈ G.L) (hk : G.kd lb = ci) {v : Int32} (hv : iv lb k = v) (hd : decode cc pc = .ok (.getfield idx, 3))
    (kk : W p l e R s m args below meth c H locs cells slots Q (F0 m (pc + 3) ls (.int v :: rest))) : W p l e R s m args below meth c H locs cells slots Q (F0 m pc ls (.ref (G.ad lb) :: rest)) := by
  obtain ⟨hx, hb, hown, hts, hK, hZ⟩ := hE
  obtain ⟨hc12, C, T, ty0, hc, hin, -, -, -⟩ := hC
  obtain ⟨hkn, C', T', hc', hl⟩ := hF
  cases hc.symm.trans hc'
  obtain ⟨k0, hk0, -⟩ := wl_get (iv := iv) (jv := jv) hm
  rw [pE_o hk hc12] at hk0
  subst hv
  refine va_get (D := D) (ci := ci) (v := .int (iv lb k)) hx hb hts hin hown hK hH.2.2.1 k0 hk0 hc k hkn (hts _ hl) (fun _ h => h) ?_ hd kk
  simp [hkn, pV, hs]
theorem rg_getj (hE : EN p c s m args cc own D cy z A) (hH : HS D cy G A H0 iv jv H locs) (hC : CF ci) (hF : FL own idx ci k) (hs : sty ci k = 1) (hm : lb ∈ G.L) (hk : G.kd lb = ci) {v : Int64} (hv : jv lb k = v) (hd : decode cc pc = .ok (.getfield idx, 3))
    (kk : W p l e R s m args below meth c H locs cells slots Q (F0 m (pc + 3) ls (.long v :: rest))) : W p l e R s m args below meth c H locs cells slots Q (F0 m pc ls (.ref (G.ad lb) :: rest)) := by
  obtain ⟨hx, hb, hown, hts, hK, hZ⟩ := hE
  obtain ⟨hc12, C, T, ty0, hc, hin, -, -, -⟩ := hC
  obtain ⟨hkn, C', T', hc', hl⟩ := hF
  cases hc.symm.trans hc'
  obtain ⟨k0, hk0, -⟩ := wl_get (iv := iv) (jv := jv) hm
  rw [pE_o hk hc12] at hk0
  subst hv
  refine va_get (D := D) (ci := ci) (v := .long (jv lb k)) hx hb hts hin hown hK hH.2.2.1 k0 hk0 hc k hkn (hts _ hl) (fun _ h => h) ?_ hd kk
  simp [hkn, pV, hs]
theorem rg_getq (hE : EN p c s m args cc own D cy z A) (hH : HS D cy G A H0 iv jv H locs) (hC : CF ci) (hF : FL own idx ci k) (hs : sty ci k = 2) (hm : lb ∈ G.L) (hk : G.kd lb = ci) (hd : decode cc pc = .ok (.getfield idx, 3))
    (kk : W p l e R s m args below meth c H locs cells slots Q (F0 m (pc + 3) ls (va_rf ((G.rv lb k).map G.ad) :: rest))) : W p l e R s m args below meth c H locs cells slots Q (F0 m pc ls (.ref (G.ad lb) :: rest)) := by
  obtain ⟨hx, hb, hown, hts, hK, hZ⟩ := hE
  obtain ⟨hc12, C, T, ty0, hc, hin, -, -, -⟩ := hC
  obtain ⟨hkn, C', T', hc', hl⟩ := hF
  cases hc.symm.trans hc'
  obtain ⟨k0, hk0, -⟩ := wl_get (iv := iv) (jv := jv) hm
  rw [pE_o hk hc12] at hk0
  refine va_get (D := D) (ci := ci) (v := va_rf ((G.rv lb k).map G.ad)) hx hb hts hin hown hK hH.2.2.1 k0 hk0 hc k hkn (hts _ hl) (fun _ h => h) ?_ hd kk
  simp [hkn, pV, hs]
theorem rg_getr (hE : EN p c s m args cc own D cy z A) (hH : HS D cy G A H0 iv jv H locs) (hC : CF ci) (hF : FL own idx ci k) (hs : sty ci k = 2) (hm : lb ∈ G.L) (hk : G.kd lb = ci) {v : Nat} (hv : G.rv lb k = some v) (hd : decode cc pc = .ok (.getfield idx, 3))
    (kk : W p l e R s m args below meth c H locs cells slots Q (F0 m (pc + 3) ls (.ref (G.ad v) :: rest))) : W p l e R s m args below meth c H locs cells slots Q (F0 m pc ls (.ref (G.ad lb) :: rest)) :=
  rg_getq hE hH hC hF hs hm hk hd (by rw [hv]; exact kk)
theorem rg_puti (hE : EN p c s m args cc own D cy z A) (hH : HS D cy G A H0 iv jv H locs) (hC : CF ci) (hF : FL own idx ci k) (hs : sty ci k = 0) (hf : FN ci k false) (hm : lb ∈ G.L) (hk : G.kd lb = ci) {v : Int32} (hd : decode cc pc = .ok (.putfield idx, 3))
    (kk : ∀ (H1 : Heap) (locs1 : List Loc), HS D cy G A H0 (up2 iv lb k v) jv H1 locs1 → W p l e R s m args below meth c H1 locs1 cells slots Q (F0 m (pc + 3) ls rest)) : W p l e R s m args below meth c H locs cells slots Q (F0 m pc ls (.int v :: .ref (G.ad lb) :: rest)) := by
  obtain ⟨hx, hb, hown, hts, hK, hZ⟩ := hE
  obtain ⟨hc12, C, T, ty0, hc, hin, hty, hnm, hst⟩ := hC
  obtain ⟨hkn, C', T', hc', hl⟩ := hF
  cases hc.symm.trans hc'
  obtain ⟨C', T', hc', hfin⟩ := hf
  cases hc.symm.trans hc'
  obtain ⟨g1, g2, hP, hS, hok, hLA, hA⟩ := hH
  obtain ⟨k0, hk0, hL0⟩ := wl_get (iv := iv) (jv := jv) hm
  rw [pE_o hk hc12] at hk0
  have hD : va_D A (wl G iv jv) := ⟨fun i j x y hi hj hxy => by
      simp only [wl, List.getElem?_map, Option.map_eq_some_iff] at hi hj
      obtain ⟨a, ha, rfl⟩ := hi
      obtain ⟨b, hb, rfl⟩ := hj
      have := inj_of_map hok.1 (List.mem_of_getElem? ha) (List.mem_of_getElem? hb) hxy
      subst this
      exact nodup_ix (nodup_of_map hok.1) ha hb, fun i x hi => by
      simp only [wl, List.getElem?_map, Option.map_eq_some_iff] at hi
      obtain ⟨a, ha, rfl⟩ := hi
      exact hLA a (List.mem_of_getElem? ha)⟩
  refine va_put (D := D) (ci := ci) (v := .int v) (ty := .int) hx hb hts hin ty0 hty hnm hown hK hP hD hS k0 hk0 hc k hkn (hts _ hl) (fun _ h => h) hfin (by rw [hty k hkn, (hst k hkn).1 hs]) rfl rfl (by simp [hkn]) hd (fun H1 locs1 hP1 _ hS1 => ?_)
  rw [wl_seti hok.1 hL0 hk hc12 hkn hs] at hP1
  exact kk H1 locs1 ⟨g1, g2, hP1, hS1, hok, hLA, hA⟩
theorem hs_D (hH : HS D cy G A H0 iv jv H locs) : va_D A (wl G iv jv) := by
  obtain ⟨g1, g2, hP, hS, hok, hLA, hA⟩ := hH
  exact ⟨fun i j x y hi hj hxy => by
      simp only [wl, List.getElem?_map, Option.map_eq_some_iff] at hi hj
      obtain ⟨a, ha, rfl⟩ := hi
      obtain ⟨b, hb, rfl⟩ := hj
      have := inj_of_map hok.1 (List.mem_of_getElem? ha) (List.mem_of_getElem? hb) hxy
      subst this
      exact nodup_ix (nodup_of_map hok.1) ha hb, fun i x hi => by
      simp only [wl, List.getElem?_map, Option.map_eq_some_iff] at hi
      obtain ⟨a, ha, rfl⟩ := hi
      exact hLA a (List.mem_of_getElem? ha)⟩
theorem rg_putj (hE : EN p c s m args cc own D cy z A) (hH : HS D cy G A H0 iv jv H locs) (hC : CF ci) (hF : FL own idx ci k) (hs : sty ci k = 1) (hf : FN ci k false) (hm : lb ∈ G.L) (hk : G.kd lb = ci) {v : Int64} (hd : decode cc pc = .ok (.putfield idx, 3))
    (kk : ∀ (H1 : Heap) (locs1 : List Loc), HS D cy G A H0 iv (up2 jv lb k v) H1 locs1 → W p l e R s m args below meth c H1 locs1 cells slots Q (F0 m (pc + 3) ls rest)) : W p l e R s m args below meth c H locs cells slots Q (F0 m pc ls (.long v :: .ref (G.ad lb) :: rest)) := by
  have hD := hs_D hH
  obtain ⟨hx, hb, hown, hts, hK, hZ⟩ := hE
  obtain ⟨hc12, C, T, ty0, hc, hin, hty, hnm, hst⟩ := hC
  obtain ⟨hkn, C', T', hc', hl⟩ := hF
  cases hc.symm.trans hc'
  obtain ⟨C', T', hc', hfin⟩ := hf
  cases hc.symm.trans hc'
  obtain ⟨g1, g2, hP, hS, hok, hLA, hA⟩ := hH
  obtain ⟨k0, hk0, hL0⟩ := wl_get (iv := iv) (jv := jv) hm
  rw [pE_o hk hc12] at hk0
  refine va_put (D := D) (ci := ci) (v := .long v) (ty := .long) hx hb hts hin ty0 hty hnm hown hK hP hD hS k0 hk0 hc k hkn (hts _ hl) (fun _ h => h) hfin (by rw [hty k hkn, (hst k hkn).2.1 hs]) rfl rfl (by simp [hkn]) hd (fun H1 locs1 hP1 _ hS1 => ?_)
  rw [wl_setj hok.1 hL0 hk hc12 hkn hs] at hP1
  exact kk H1 locs1 ⟨g1, g2, hP1, hS1, hok, hLA, hA⟩
theorem setR_ok {lb k v : Nat} (h : G.ok) (hv : v ∈ G.L) : (G.setR (up2 G.rv lb k (some v))).ok := by
  refine ⟨h.1, h.2.1, fun b hb j c hc => ?_⟩
  have hc : up2 G.rv lb k (some v) b j = some c := hc
  by_cases h1 : b = lb
  · subst h1
    by_cases h2 : j = k
    · subst h2
      rw [up2_s] at hc
      cases hc
      exact hv
    · rw [up2_k h2] at hc
      exact h.2.2 b hb j c hc
  · rw [up2_l h1] at hc
    exact h.2.2 b hb j c hc
theorem rg_putr (hE : EN p c s m args cc own D cy z A) (hH : HS D cy G A H0 iv jv H locs) (hC : CF ci) (hF : FL own idx ci k) (hs : sty ci k = 2) (hf : FN ci k false) (hm : lb ∈ G.L) (hk : G.kd lb = ci) {v : Nat} (hvm : v ∈ G.L) (hd : decode cc pc = .ok (.putfield idx, 3))
    (kk : ∀ (H1 : Heap) (locs1 : List Loc), HS D cy (G.setR (up2 G.rv lb k (some v))) A H0 iv jv H1 locs1 → W p l e R s m args below meth c H1 locs1 cells slots Q (F0 m (pc + 3) ls rest)) : W p l e R s m args below meth c H locs cells slots Q (F0 m pc ls (.ref (G.ad v) :: .ref (G.ad lb) :: rest)) := by
  have hD := hs_D hH
  obtain ⟨hx, hb, hown, hts, hK, hZ⟩ := hE
  obtain ⟨hc12, C, T, ty0, hc, hin, hty, hnm, hst⟩ := hC
  obtain ⟨hkn, C', T', hc', hl⟩ := hF
  cases hc.symm.trans hc'
  obtain ⟨C', T', hc', hfin⟩ := hf
  cases hc.symm.trans hc'
  obtain ⟨g1, g2, hP, hS, hok, hLA, hA⟩ := hH
  obtain ⟨k0, hk0, hL0⟩ := wl_get (iv := iv) (jv := jv) hm
  rw [pE_o hk hc12] at hk0
  refine va_put (D := D) (ci := ci) (v := .ref (G.ad v)) (ty := ty0 k) hx hb hts hin ty0 hty hnm hown hK hP hD hS k0 hk0 hc k hkn (hts _ hl) (fun _ h => h) hfin (hty k hkn) (by rcases (hst k hkn).2.2 hs with ⟨n, h⟩ | ⟨n, h⟩ <;> rw [h] <;> rfl) (by rcases (hst k hkn).2.2 hs with ⟨n, h⟩ | ⟨n, h⟩ <;> rw [h] <;> rfl) (by simp [hkn]) hd (fun H1 locs1 hP1 _ hS1 => ?_)
  have e := wl_setr (G := G) (iv := iv) (jv := jv) (v := some v) hok.1 hL0 hk hc12 hkn hs
  rw [show va_rf ((some v).map G.ad) = .ref (G.ad v) from rfl] at e
  rw [e] at hP1
  exact kk H1 locs1 ⟨g1, g2, hP1, hS1, setR_ok hok hvm, hLA, hA⟩
theorem rg_putrF (hE : EN p c s m args cc own D cy z A) (hH : HS D cy G A H0 iv jv H locs) (hC : CF ci) (hF : FL own idx ci k) (hs : sty ci k = 2) (hf : FN ci k true) (ho : FO ci k own) (hini : meth.name = "<init>") (hm : lb ∈ G.L) (hk : G.kd lb = ci) {v : Nat} (hvm : v ∈ G.L) (hd : decode cc pc = .ok (.putfield idx, 3))
    (kk : ∀ (H1 : Heap) (locs1 : List Loc), HS D cy (G.setR (up2 G.rv lb k (some v))) A H0 iv jv H1 locs1 → W p l e R s m args below meth c H1 locs1 cells slots Q (F0 m (pc + 3) ls rest)) : W p l e R s m args below meth c H locs cells slots Q (F0 m pc ls (.ref (G.ad v) :: .ref (G.ad lb) :: rest)) := by
  have hD := hs_D hH
  obtain ⟨hx, hb, hown, hts, hK, hZ⟩ := hE
  obtain ⟨hc12, C, T, ty0, hc, hin, hty, hnm, hst⟩ := hC
  obtain ⟨hkn, C', T', hc', hl⟩ := hF
  cases hc.symm.trans hc'
  obtain ⟨C', T', hc', hfin⟩ := hf
  cases hc.symm.trans hc'
  obtain ⟨C', T', hc', hdecl⟩ := ho
  cases hc.symm.trans hc'
  obtain ⟨g1, g2, hP, hS, hok, hLA, hA⟩ := hH
  obtain ⟨k0, hk0, hL0⟩ := wl_get (iv := iv) (jv := jv) hm
  rw [pE_o hk hc12] at hk0
  refine va_putF (D := D) (ci := ci) (v := .ref (G.ad v)) (ty := ty0 k) hx hb hts hin ty0 hty hnm hown hK hP hD hS k0 hk0 hc k hkn (hts _ hl) (fun _ h => h) hfin hini hdecl (hty k hkn) (by rcases (hst k hkn).2.2 hs with ⟨n, h⟩ | ⟨n, h⟩ <;> rw [h] <;> rfl) (by rcases (hst k hkn).2.2 hs with ⟨n, h⟩ | ⟨n, h⟩ <;> rw [h] <;> rfl) (by simp [hkn]) hd (fun H1 locs1 hP1 _ hS1 => ?_)
  have e := wl_setr (G := G) (iv := iv) (jv := jv) (v := some v) hok.1 hL0 hk hc12 hkn hs
  rw [show va_rf ((some v).map G.ad) = .ref (G.ad v) from rfl] at e
  rw [e] at hP1
  exact kk H1 locs1 ⟨g1, g2, hP1, hS1, setR_ok hok hvm, hLA, hA⟩
theorem rg_putiF (hE : EN p c s m args cc own D cy z A) (hH : HS D cy G A H0 iv jv H locs) (hC : CF ci) (hF : FL own idx ci k) (hs : sty ci k = 0) (hf : FN ci k true) (ho : FO ci k own) (hini : meth.name = "<init>") (hm : lb ∈ G.L) (hk : G.kd lb = ci) {v : Int32} (hd : decode cc pc = .ok (.putfield idx, 3))
    (kk : ∀ (H1 : Heap) (locs1 : List Loc), HS D cy G A H0 (up2 iv lb k v) jv H1 locs1 → W p l e R s m args below meth c H1 locs1 cells slots Q (F0 m (pc + 3) ls rest)) : W p l e R s m args below meth c H locs cells slots Q (F0 m pc ls (.int v :: .ref (G.ad lb) :: rest)) := by
  have hD := hs_D hH
  obtain ⟨hx, hb, hown, hts, hK, hZ⟩ := hE
  obtain ⟨hc12, C, T, ty0, hc, hin, hty, hnm, hst⟩ := hC
  obtain ⟨hkn, C', T', hc', hl⟩ := hF
  cases hc.symm.trans hc'
  obtain ⟨C', T', hc', hfin⟩ := hf
  cases hc.symm.trans hc'
  obtain ⟨C', T', hc', hdecl⟩ := ho
  cases hc.symm.trans hc'
  obtain ⟨g1, g2, hP, hS, hok, hLA, hA⟩ := hH
  obtain ⟨k0, hk0, hL0⟩ := wl_get (iv := iv) (jv := jv) hm
  rw [pE_o hk hc12] at hk0
  refine va_putF (D := D) (ci := ci) (v := .int v) (ty := .int) hx hb hts hin ty0 hty hnm hown hK hP hD hS k0 hk0 hc k hkn (hts _ hl) (fun _ h => h) hfin hini hdecl (by rw [hty k hkn, (hst k hkn).1 hs]) rfl rfl (by simp [hkn]) hd (fun H1 locs1 hP1 _ hS1 => ?_)
  rw [wl_seti hok.1 hL0 hk hc12 hkn hs] at hP1
  exact kk H1 locs1 ⟨g1, g2, hP1, hS1, hok, hLA, hA⟩
/-! arrays -/
theorem ok_ln (h : G.ok) (hm : lb ∈ G.L) : G.ln lb < 2147483648 := h.2.1 lb hm
theorem rg_iald (hE : EN p c s m args cc own D cy z A) (hH : HS D cy G A H0 iv jv H locs) (hm : lb ∈ G.L) (hk : G.kd lb = 13) {n : Nat} (hn : n < G.ln lb) {v : Int32} (hv : iv lb n = v) (hd : decode cc pc = .ok (.iaload, 1))
    (kk : W p l e R s m args below meth c H locs cells slots Q (F0 m (pc + 1) ls (.int v :: rest))) : W p l e R s m args below meth c H locs cells slots Q (F0 m pc ls (.int (nI n) :: .ref (G.ad lb) :: rest)) := by
  obtain ⟨hx, hb, hown, hts, hK, hZ⟩ := hE
  obtain ⟨g1, g2, hP, hS, hok, hLA, hA⟩ := hH
  obtain ⟨k0, hk0, -⟩ := wl_get (iv := iv) (jv := jv) hm
  rw [pE_i hk (by omega)] at hk0
  have hlt := ok_ln hok hm
  subst g2
  refine va_iald (D := D) hx hb hK hP k0 1 hk0 rfl (vp_in_nI hn hlt) hd ?_
  rw [clamp_nI (by omega), hv]
  exact kk
theorem rg_bald (hE : EN p c s m args cc own D cy z A) (hH : HS D cy G A H0 iv jv H locs) (hm : lb ∈ G.L) (hk : G.kd lb = 12) {n : Nat} (hn : n < G.ln lb) {v : Int32} (hv : iv lb n = v) (hd : decode cc pc = .ok (.baload, 1))
    (kk : W p l e R s m args below meth c H locs cells slots Q (F0 m (pc + 1) ls (.int v :: rest))) : W p l e R s m args below meth c H locs cells slots Q (F0 m pc ls (.int (nI n) :: .ref (G.ad lb) :: rest)) := by
  obtain ⟨hx, hb, hown, hts, hK, hZ⟩ := hE
  obtain ⟨g1, g2, hP, hS, hok, hLA, hA⟩ := hH
  obtain ⟨k0, hk0, -⟩ := wl_get (iv := iv) (jv := jv) hm
  rw [pE_i hk (by omega)] at hk0
  have hlt := ok_ln hok hm
  subst g2
  refine va_bald (D := D) hx hb hK hP k0 0 hk0 rfl (vp_in_nI hn hlt) hd ?_
  rw [clamp_nI (by omega), hv]
  exact kk
theorem rg_zald (hE : EN p c s m args cc own D cy z A) (hH : HS D cy G A H0 iv jv H locs) (hm : lb ∈ G.L) (hk : G.kd lb = 15) {n : Nat} (hn : n < G.ln lb) {v : Int32} (hv : iv lb n = v) (hd : decode cc pc = .ok (.baload, 1))
    (kk : W p l e R s m args below meth c H locs cells slots Q (F0 m (pc + 1) ls (.int v :: rest))) : W p l e R s m args below meth c H locs cells slots Q (F0 m pc ls (.int (nI n) :: .ref (G.ad lb) :: rest)) := by
  obtain ⟨hx, hb, hown, hts, hK, hZ⟩ := hE
  obtain ⟨g1, g2, hP, hS, hok, hLA, hA⟩ := hH
  obtain ⟨k0, hk0, -⟩ := wl_get (iv := iv) (jv := jv) hm
  rw [pE_i hk (by omega)] at hk0
  have hlt := ok_ln hok hm
  subst g2
  refine va_zald (D := D) hx hb hK hP k0 3 hk0 rfl (vp_in_nI hn hlt) hd ?_
  rw [clamp_nI (by omega), hv]
  exact kk
theorem rg_lald (hE : EN p c s m args cc own D cy z A) (hH : HS D cy G A H0 iv jv H locs) (hm : lb ∈ G.L) (hk : G.kd lb = 14) {n : Nat} (hn : n < G.ln lb) {v : Int64} (hv : jv lb n = v) (hd : decode cc pc = .ok (.laload, 1))
    (kk : W p l e R s m args below meth c H locs cells slots Q (F0 m (pc + 1) ls (.long v :: rest))) : W p l e R s m args below meth c H locs cells slots Q (F0 m pc ls (.int (nI n) :: .ref (G.ad lb) :: rest)) := by
  obtain ⟨hx, hb, hown, hts, hK, hZ⟩ := hE
  obtain ⟨g1, g2, hP, hS, hok, hLA, hA⟩ := hH
  obtain ⟨k0, hk0, -⟩ := wl_get (iv := iv) (jv := jv) hm
  rw [pE_j hk] at hk0
  have hlt := ok_ln hok hm
  subst g2
  refine va_lald (D := D) hx hb hK hP k0 2 hk0 rfl (vp_in_nI hn hlt) hd ?_
  rw [clamp_nI (by omega), hv]
  exact kk
theorem rg_iast (hE : EN p c s m args cc own D cy z A) (hH : HS D cy G A H0 iv jv H locs) (hm : lb ∈ G.L) (hk : G.kd lb = 13) {n : Nat} (hn : n < G.ln lb) {v : Int32} (hd : decode cc pc = .ok (.iastore, 1))
    (kk : ∀ (H1 : Heap) (locs1 : List Loc), HS D cy G A H0 (up2 iv lb n v) jv H1 locs1 → W p l e R s m args below meth c H1 locs1 cells slots Q (F0 m (pc + 1) ls rest)) : W p l e R s m args below meth c H locs cells slots Q (F0 m pc ls (.int v :: .int (nI n) :: .ref (G.ad lb) :: rest)) := by
  have hD := hs_D hH
  obtain ⟨hx, hb, hown, hts, hK, hZ⟩ := hE
  obtain ⟨g1, g2, hP, hS, hok, hLA, hA⟩ := hH
  obtain ⟨k0, hk0, hL0⟩ := wl_get (iv := iv) (jv := jv) hm
  rw [pE_i hk (by omega)] at hk0
  have hlt := ok_ln hok hm
  subst g2
  refine va_iast (D := D) hx hb hK hP hD hS k0 1 hk0 rfl (vp_in_nI hn hlt) hd (fun H1 locs1 hP1 _ hS1 => ?_)
  rw [clamp_nI (by omega), wl_sti hok.1 hL0 hk (by omega)] at hP1
  exact kk H1 locs1 ⟨g1, rfl, hP1, hS1, hok, hLA, hA⟩
theorem rg_bast (hE : EN p c s m args cc own D cy z A) (hH : HS D cy G A H0 iv jv H locs) (hm : lb ∈ G.L) (hk : G.kd lb = 12) {n : Nat} (hn : n < G.ln lb) {v w : Int32} (hv : vp_nar .byte v = w) (hd : decode cc pc = .ok (.bastore, 1))
    (kk : ∀ (H1 : Heap) (locs1 : List Loc), HS D cy G A H0 (up2 iv lb n w) jv H1 locs1 → W p l e R s m args below meth c H1 locs1 cells slots Q (F0 m (pc + 1) ls rest)) : W p l e R s m args below meth c H locs cells slots Q (F0 m pc ls (.int v :: .int (nI n) :: .ref (G.ad lb) :: rest)) := by
  have hD := hs_D hH
  obtain ⟨hx, hb, hown, hts, hK, hZ⟩ := hE
  obtain ⟨g1, g2, hP, hS, hok, hLA, hA⟩ := hH
  obtain ⟨k0, hk0, hL0⟩ := wl_get (iv := iv) (jv := jv) hm
  rw [pE_i hk (by omega)] at hk0
  have hlt := ok_ln hok hm
  subst g2
  refine va_bast (D := D) hx hb hK hP hD hS k0 0 hk0 rfl (vp_in_nI hn hlt) hd (fun H1 locs1 hP1 _ hS1 => ?_)
  rw [clamp_nI (by omega), hv, wl_sti hok.1 hL0 hk (by omega)] at hP1
  exact kk H1 locs1 ⟨g1, rfl, hP1, hS1, hok, hLA, hA⟩
theorem rg_last (hE : EN p c s m args cc own D cy z A) (hH : HS D cy G A H0 iv jv H locs) (hm : lb ∈ G.L) (hk : G.kd lb = 14) {n : Nat} (hn : n < G.ln lb) {v : Int64} (hd : decode cc pc = .ok (.lastore, 1))
    (kk : ∀ (H1 : Heap) (locs1 : List Loc), HS D cy G A H0 iv (up2 jv lb n v) H1 locs1 → W p l e R s m args below meth c H1 locs1 cells slots Q (F0 m (pc + 1) ls rest)) : W p l e R s m args below meth c H locs cells slots Q (F0 m pc ls (.long v :: .int (nI n) :: .ref (G.ad lb) :: rest)) := by
  have hD := hs_D hH
  obtain ⟨hx, hb, hown, hts, hK, hZ⟩ := hE
  obtain ⟨g1, g2, hP, hS, hok, hLA, hA⟩ := hH
  obtain ⟨k0, hk0, hL0⟩ := wl_get (iv := iv) (jv := jv) hm
  rw [pE_j hk] at hk0
  have hlt := ok_ln hok hm
  subst g2
  refine va_last (D := D) hx hb hK hP hD hS k0 2 hk0 rfl (vp_in_nI hn hlt) hd (fun H1 locs1 hP1 _ hS1 => ?_)
  rw [clamp_nI (by omega), wl_stj hok.1 hL0 hk] at hP1
  exact kk H1 locs1 ⟨g1, rfl, hP1, hS1, hok, hLA, hA⟩
end R1
