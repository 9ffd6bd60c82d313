section LP
variable {p : Program} {l : Launch} {e : Env} {R : Room} {s : State} {m : MethodId} {args : Array Value} {below : List Frame} {meth : Method} {c : Code} {H : Heap} {locs : List Loc} {cells slots : Nat} {Q : State → Prop}
variable {cc : ByteArray} {pc : Nat} {ls : Array Slot} {rest : List Value} {D : va_G} {cy : Nat → ClassId} {G : GW} {A : Nat → Prop} {H0 : Heap} {iv : IV} {jv : JV} {own : String} {lb ci k idx : Nat} {z : ZK}
theorem rg_loop {σ : Type} {nL : Nat} {st : List Value} (mu : σ → Nat) (lv : σ → List (Nat × Value)) (Gf : σ → GW) (ivf : σ → IV) (jvf : σ → JV) (inv : σ → Prop)
    (step : ∀ (u : σ) (H : Heap) (locs : List Loc) (ls : Array Slot), inv u → lv_has ls nL (lv u) → HS D cy (Gf u) A H0 (ivf u) (jvf u) H locs →
      (∀ (v : σ) (H' : Heap) (locs' : List Loc) (ls' : Array Slot), mu v < mu u → inv v → lv_has ls' nL (lv v) → HS D cy (Gf v) A H0 (ivf v) (jvf v) H' locs' → W p l e R s m args below meth c H' locs' cells slots Q (F0 m pc ls' st)) →
      W p l e R s m args below meth c H locs cells slots Q (F0 m pc ls st))
    (u0 : σ) (h0 : inv u0) (hl : lv_has ls nL (lv u0)) (hH : HS D cy (Gf u0) A H0 (ivf u0) (jvf u0) H locs) : W p l e R s m args below meth c H locs cells slots Q (F0 m pc ls st) := by
  have key : ∀ (n : Nat) (u : σ) (H : Heap) (locs : List Loc) (ls : Array Slot), mu u < n → inv u → lv_has ls nL (lv u) → HS D cy (Gf u) A H0 (ivf u) (jvf u) H locs → W p l e R s m args below meth c H locs cells slots Q (F0 m pc ls st) := by
    intro n
    induction n with
    | zero => intro u H locs ls h; omega
    | succ n ih => intro u H locs ls hn h1 h2 h3; exact step u H locs ls h1 h2 h3 (fun v H' locs' ls' hv g1 g2 g3 => ih v H' locs' ls' (by omega) g1 g2 g3)
  exact key (mu u0 + 1) u0 H locs ls (Nat.lt_succ_self _) h0 hl hH
/-- a place where branches meet -/
theorem rg_join {σ : Type} {nL pcJ : Nat} {st : List Value} (hH0 : HS D cy G A H0 iv jv H locs) (lv : σ → List (Nat × Value)) (stJ : σ → List Value) (Gf : σ → GW) (ivf : σ → IV) (jvf : σ → JV) (inv : σ → Prop)
    (go : ∀ (u : σ) (H : Heap) (locs : List Loc) (ls : Array Slot), inv u → lv_has ls nL (lv u) → HS D cy (Gf u) A H0 (ivf u) (jvf u) H locs → W p l e R s m args below meth c H locs cells slots Q (F0 m pcJ ls (stJ u)))
    (main : (∀ (u : σ) (H : Heap) (locs : List Loc) (ls : Array Slot), inv u → lv_has ls nL (lv u) → HS D cy (Gf u) A H0 (ivf u) (jvf u) H locs → W p l e R s m args below meth c H locs cells slots Q (F0 m pcJ ls (stJ u))) → W p l e R s m args below meth c H locs cells slots Q (F0 m pc ls st)) : W p l e R s m args below meth c H locs cells slots Q (F0 m pc ls st) := main go
/-! ===== the reference: one object (label 0), its arrays (label = slot) ===== -/
def mArr : List Nat := [1, 2, 8, 9, 10, 11, 12, 13, 14, 15, 16, 17, 18, 19, 20, 21, 23, 24, 25, 26, 27, 28, 37, 38, 39, 40, 41]
def mN (k : Nat) : Nat := match k with
  | 1 => 1000 | 2 => 2000 | 8 => 6 | 9 => 6 | 10 => 36 | 11 => 252 | 12 => 2016 | 13 => 1200 | 14 => 240 | 15 => 2400 | 16 => 12 | 17 => 12 | 18 => 492 | 19 => 492 | 20 => 2400 | 21 => 2400 | 23 => 6 | 24 => 6 | 25 => 2400 | 26 => 2400 | 27 => 6 | 28 => 2400 | 37 => 5 | 38 => 2000 | 39 => 8000 | 40 => 400 | 41 => 400 | _ => 0
def mK (k : Nat) : Nat := match k with
  | 23 => 15 | 41 => 15 | _ => 13
def isM (G : GW) : Prop := (0 ∈ G.L ∧ G.kd 0 = 11) ∧ ∀ k ∈ mArr, k ∈ G.L ∧ G.kd k = mK k ∧ G.ln k = mN k ∧ G.rv 0 k = some k
theorem rm_geti (hE : EN p c s m args cc own D cy z A) (hH : HS D cy G A H0 iv jv H locs) (hG : isM G) (hF : FL own idx 11 k) (hs : sty 11 k = 0) {v : Int32} (hv : iv 0 k = v) (hd : decode cc pc = .ok (.getfield idx, 3))
    (kk : W p l e R s m args below meth c H locs cells slots Q (F0 m (pc + 3) ls (.int v :: rest))) : W p l e R s m args below meth c H locs cells slots Q (F0 m pc ls (.ref (G.ad 0) :: rest)) :=
  rg_geti hE hH cf_X11 hF hs hG.1.1 hG.1.2 hv hd kk
theorem rm_getr (hE : EN p c s m args cc own D cy z A) (hH : HS D cy G A H0 iv jv H locs) (hG : isM G) (hF : FL own idx 11 k) (hs : sty 11 k = 2) (ha : k ∈ mArr) (hd : decode cc pc = .ok (.getfield idx, 3))
    (kk : W p l e R s m args below meth c H locs cells slots Q (F0 m (pc + 3) ls (.ref (G.ad k) :: rest))) : W p l e R s m args below meth c H locs cells slots Q (F0 m pc ls (.ref (G.ad 0) :: rest)) :=
  rg_getr hE hH cf_X11 hF hs hG.1.1 hG.1.2 (hG.2 k ha).2.2.2 hd kk
theorem rm_puti (hE : EN p c s m args cc own D cy z A) (hH : HS D cy G A H0 iv jv H locs) (hG : isM G) (hF : FL own idx 11 k) (hs : sty 11 k = 0) (hf : FN 11 k false) {v : Int32} (hd : decode cc pc = .ok (.putfield idx, 3))
    (kk : ∀ (H1 : Heap) (locs1 : List Loc), HS D cy G A H0 (up2 iv 0 k v) jv H1 locs1 → W p l e R s m args below meth c H1 locs1 cells slots Q (F0 m (pc + 3) ls rest)) : W p l e R s m args below meth c H locs cells slots Q (F0 m pc ls (.int v :: .ref (G.ad 0) :: rest)) :=
  rg_puti hE hH cf_X11 hF hs hf hG.1.1 hG.1.2 hd kk
theorem rm_iald (hE : EN p c s m args cc own D cy z A) (hH : HS D cy G A H0 iv jv H locs) (hG : isM G) (ha : k ∈ mArr) (hK : mK k = 13) {N : Nat} (hN : mN k = N) {n : Nat} (hn : n < N) {v : Int32} (hv : iv k n = v) (hd : decode cc pc = .ok (.iaload, 1))
    (kk : W p l e R s m args below meth c H locs cells slots Q (F0 m (pc + 1) ls (.int v :: rest))) : W p l e R s m args below meth c H locs cells slots Q (F0 m pc ls (.int (nI n) :: .ref (G.ad k) :: rest)) :=
  rg_iald hE hH (hG.2 k ha).1 ((hG.2 k ha).2.1.trans hK) (by rw [(hG.2 k ha).2.2.1, hN]; exact hn) hv hd kk
theorem rm_zald (hE : EN p c s m args cc own D cy z A) (hH : HS D cy G A H0 iv jv H locs) (hG : isM G) (ha : k ∈ mArr) (hK : mK k = 15) {N : Nat} (hN : mN k = N) {n : Nat} (hn : n < N) {v : Int32} (hv : iv k n = v) (hd : decode cc pc = .ok (.baload, 1))
    (kk : W p l e R s m args below meth c H locs cells slots Q (F0 m (pc + 1) ls (.int v :: rest))) : W p l e R s m args below meth c H locs cells slots Q (F0 m pc ls (.int (nI n) :: .ref (G.ad k) :: rest)) :=
  rg_zald hE hH (hG.2 k ha).1 ((hG.2 k ha).2.1.trans hK) (by rw [(hG.2 k ha).2.2.1, hN]; exact hn) hv hd kk
theorem rm_iast (hE : EN p c s m args cc own D cy z A) (hH : HS D cy G A H0 iv jv H locs) (hG : isM G) (ha : k ∈ mArr) (hK : mK k = 13) {N : Nat} (hN : mN k = N) {n : Nat} (hn : n < N) {v : Int32} (hd : decode cc pc = .ok (.iastore, 1))
    (kk : ∀ (H1 : Heap) (locs1 : List Loc), HS D cy G A H0 (up2 iv k n v) jv H1 locs1 → W p l e R s m args below meth c H1 locs1 cells slots Q (F0 m (pc + 1) ls rest)) : W p l e R s m args below meth c H locs cells slots Q (F0 m pc ls (.int v :: .int (nI n) :: .ref (G.ad k) :: rest)) :=
  rg_iast hE hH (hG.2 k ha).1 ((hG.2 k ha).2.1.trans hK) (by rw [(hG.2 k ha).2.2.1, hN]; exact hn) hd kk
theorem rm_zast (hE : EN p c s m args cc own D cy z A) (hH : HS D cy G A H0 iv jv H locs) (hG : isM G) (ha : k ∈ mArr) (hK : mK k = 15) {N : Nat} (hN : mN k = N) {n : Nat} (hn : n < N) {v w : Int32} (hv : vp_nar .boolean v = w) (hd : decode cc pc = .ok (.bastore, 1))
    (kk : ∀ (H1 : Heap) (locs1 : List Loc), HS D cy G A H0 (up2 iv k n w) jv H1 locs1 → W p l e R s m args below meth c H1 locs1 cells slots Q (F0 m (pc + 1) ls rest)) : W p l e R s m args below meth c H locs cells slots Q (F0 m pc ls (.int v :: .int (nI n) :: .ref (G.ad k) :: rest)) :=
  rg_zast hE hH (hG.2 k ha).1 ((hG.2 k ha).2.1.trans hK) (by rw [(hG.2 k ha).2.2.1, hN]; exact hn) hv hd kk
end LP
