def nsl (ci : Nat) : Nat := match ci with
  | 0 => 3
  | 1 => 5
  | 2 => 8
  | 3 => 2
  | 4 => 2
  | 5 => 2
  | 6 => 3
  | 7 => 17
  | 8 => 10
  | 9 => 2
  | 10 => 11
  | 11 => 43
  | _ => 0
def sty (ci k : Nat) : Nat := match ci with
  | 0 => (match k with
    | 0 => 1
    | 1 => 0
    | 2 => 2
    | _ => 2)
  | 1 => (match k with
    | 0 => 0
    | 1 => 0
    | 2 => 2
    | 3 => 2
    | 4 => 2
    | _ => 2)
  | 2 => (match k with
    | 0 => 2
    | 1 => 2
    | 2 => 2
    | 3 => 0
    | 4 => 0
    | 5 => 0
    | 6 => 0
    | 7 => 1
    | _ => 2)
  | 3 => (match k with
    | 0 => 2
    | 1 => 0
    | _ => 2)
  | 4 => (match k with
    | 0 => 2
    | 1 => 0
    | _ => 2)
  | 5 => (match k with
    | 0 => 2
    | 1 => 2
    | _ => 2)
  | 6 => (match k with
    | 0 => 0
    | 1 => 2
    | 2 => 2
    | _ => 2)
  | 7 => (match k with
    | 0 => 2
    | 1 => 0
    | 2 => 2
    | 3 => 2
    | 4 => 2
    | 5 => 2
    | 6 => 2
    | 7 => 0
    | 8 => 2
    | 9 => 2
    | 10 => 0
    | 11 => 2
    | 12 => 0
    | 13 => 2
    | 14 => 2
    | 15 => 0
    | 16 => 0
    | _ => 2)
  | 8 => (match k with
    | 0 => 2
    | 1 => 2
    | 2 => 0
    | 3 => 2
    | 4 => 2
    | 5 => 2
    | 6 => 2
    | 7 => 2
    | 8 => 2
    | 9 => 0
    | _ => 2)
  | 9 => (match k with
    | 0 => 2
    | 1 => 0
    | _ => 2)
  | 10 => (match k with
    | 0 => 2
    | 1 => 0
    | 2 => 2
    | 3 => 2
    | 4 => 0
    | 5 => 2
    | 6 => 0
    | 7 => 2
    | 8 => 2
    | 9 => 0
    | 10 => 2
    | _ => 2)
  | 11 => (match k with
    | 0 => 0
    | 1 => 2
    | 2 => 2
    | 3 => 0
    | 4 => 0
    | 5 => 0
    | 6 => 0
    | 7 => 0
    | 8 => 2
    | 9 => 2
    | 10 => 2
    | 11 => 2
    | 12 => 2
    | 13 => 2
    | 14 => 2
    | 15 => 2
    | 16 => 2
    | 17 => 2
    | 18 => 2
    | 19 => 2
    | 20 => 2
    | 21 => 2
    | 22 => 0
    | 23 => 2
    | 24 => 2
    | 25 => 2
    | 26 => 2
    | 27 => 2
    | 28 => 2
    | 29 => 0
    | 30 => 0
    | 31 => 0
    | 32 => 0
    | 33 => 0
    | 34 => 0
    | 35 => 0
    | 36 => 0
    | 37 => 2
    | 38 => 2
    | 39 => 2
    | 40 => 2
    | 41 => 2
    | 42 => 0
    | _ => 2)
  | _ => 2
/-! ===== words: the good words of the tables ===== -/
def bw : List Cond := lw_tbl.filter goodWord
theorem bw_of {w : Cond} (h : w ∈ lw_tbl) (g : goodWord w = true) : w ∈ bw := List.mem_filter.mpr ⟨h, g⟩
theorem bw_good {w : Cond} (h : w ∈ bw) : (w.onTables && w.keeps) = true ∨ ∃ ty, w = .arrayClass ty := good_of_word (List.mem_filter.mp h).2
theorem bw_in {w : Cond} (h : w ∈ bw) : w ∈ lw_tbl := (List.mem_filter.mp h).1
theorem b0 {w : Cond} (i : Nat) (h : (k2_sels lw_privs)[i]? = some w) (g : goodWord w = true) : w ∈ bw := bw_of (List.mem_append_left _ (List.mem_of_getElem? h)) g
theorem b1 {w : Cond} (i : Nat) (h : tables_1_1[i]? = some w) (g : goodWord w = true) : w ∈ bw := bw_of (List.mem_append_right _ (List.mem_append_left _ (List.mem_of_getElem? h))) g
theorem b2 {w : Cond} (i : Nat) (h : tables_1_2[i]? = some w) (g : goodWord w = true) : w ∈ bw := bw_of (List.mem_append_right _ (List.mem_append_right _ (List.mem_append_left _ (List.mem_of_getElem? h)))) g
theorem b3 {w : Cond} (i : Nat) (h : tables_1_3[i]? = some w) (g : goodWord w = true) : w ∈ bw := bw_of (List.mem_append_right _ (List.mem_append_right _ (List.mem_append_right _ (List.mem_append_left _ (List.mem_of_getElem? h))))) g
theorem b4 {w : Cond} (i : Nat) (h : tables_1_4[i]? = some w) (g : goodWord w = true) : w ∈ bw := bw_of (List.mem_append_right _ (List.mem_append_right _ (List.mem_append_right _ (List.mem_append_right _ (List.mem_append_left _ (List.mem_of_getElem? h)))))) g
theorem b5 {w : Cond} (i : Nat) (h : tables_1_5[i]? = some w) (g : goodWord w = true) : w ∈ bw := bw_of (List.mem_append_right _ (List.mem_append_right _ (List.mem_append_right _ (List.mem_append_right _ (List.mem_append_right _ (List.mem_append_left _ (List.mem_of_getElem? h))))))) g
theorem b6 {w : Cond} (i : Nat) (h : tables_1_6[i]? = some w) (g : goodWord w = true) : w ∈ bw := bw_of (List.mem_append_right _ (List.mem_append_right _ (List.mem_append_right _ (List.mem_append_right _ (List.mem_append_right _ (List.mem_append_right _ (List.mem_of_getElem? h))))))) g
theorem gi_bw : GoodIn bw bw := fun _ h => ⟨h, bw_good h⟩
theorem gi_code {w : Cond} (h : w ∈ bw) : GoodIn bw (w :: bw) := fun v hv => by
  rcases List.mem_cons.mp hv with rfl | hv
  · exact ⟨h, bw_good h⟩
  · exact ⟨hv, bw_good hv⟩
theorem gi_app {a b : List Cond} (ha : ∀ w ∈ a, w ∈ bw) (hb : GoodIn bw b) : GoodIn bw (a ++ b) := fun w hw => by
  rcases List.mem_append.mp hw with h | h
  · exact ⟨ha w h, bw_good (ha w h)⟩
  · exact hb w h
/-! ===== the picture of a heap: labels ===== -/
abbrev IV : Type := Nat → Nat → Int32
abbrev JV : Type := Nat → Nat → Int64
abbrev RV : Type := Nat → Nat → Option Nat
def up2 {α : Type} (f : Nat → Nat → α) (a k : Nat) (v : α) : Nat → Nat → α := fun b j => if b = a then (if j = k then v else f b j) else f b j
theorem up2_s {α : Type} {f : Nat → Nat → α} {a k : Nat} {v : α} : up2 f a k v a k = v := by simp [up2]
theorem up2_l {α : Type} {f : Nat → Nat → α} {a k b j : Nat} {v : α} (h : b ≠ a) : up2 f a k v b j = f b j := by simp [up2, h]
theorem up2_k {α : Type} {f : Nat → Nat → α} {a k b j : Nat} {v : α} (h : j ≠ k) : up2 f a k v b j = f b j := by simp [up2, h]
def clr {α : Type} (f : Nat → Nat → α) (a : Nat) (v : α) : Nat → Nat → α := fun b j => if b = a then v else f b j
theorem clr_s {α : Type} {f : Nat → Nat → α} {a j : Nat} {v : α} : clr f a v a j = v := by simp [clr]
theorem clr_l {α : Type} {f : Nat → Nat → α} {a b j : Nat} {v : α} (h : b ≠ a) : clr f a v b j = f b j := by simp [clr, h]
abbrev GW : Type := va_G × (Nat → ClassId) × List Nat × (Nat → Nat) × (Nat → Nat) × RV × (Nat → Nat)
def GW.D (G : GW) : va_G := G.1
def GW.cy (G : GW) : Nat → ClassId := G.2.1
def GW.L (G : GW) : List Nat := G.2.2.1
def GW.kd (G : GW) : Nat → Nat := G.2.2.2.1
def GW.ln (G : GW) : Nat → Nat := G.2.2.2.2.1
def GW.rv (G : GW) : RV := G.2.2.2.2.2.1
def GW.ad (G : GW) : Nat → Nat := G.2.2.2.2.2.2
def GW.setR (G : GW) (f : RV) : GW := (G.D, G.cy, G.L, G.kd, G.ln, f, G.ad)
/-- a new thing of label n at the address q, of the length z -/
def GW.add (G : GW) (n q z : Nat) : GW := (G.D, G.cy, G.L ++ [n], G.kd, va_up G.ln n z, clr G.rv n none, va_up G.ad n q)
def pV (G : GW) (iv : IV) (jv : JV) (lb ci k : Nat) : Value := match sty ci k with
  | 0 => .int (iv lb k)
  | 1 => .long (jv lb k)
  | _ => va_rf ((G.rv lb k).map G.ad)
def pE (G : GW) (iv : IV) (jv : JV) (lb : Nat) : va_E := if G.kd lb < 12 then .inr (G.kd lb, (List.range (nsl (G.kd lb))).map (pV G iv jv lb (G.kd lb))) else if G.kd lb = 14 then .inl (G.cy 14, G.ln lb, .inr (.inl (jv lb))) else if G.kd lb < 16 then .inl (G.cy (G.kd lb), G.ln lb, .inl (iv lb)) else .inl (G.cy (G.kd lb), G.ln lb, .inr (.inr (.inr (.inr (fun j => (G.rv lb j).map G.ad)))))
def wl (G : GW) (iv : IV) (jv : JV) : va_W := G.L.map (fun lb => (G.ad lb, pE G iv jv lb))
theorem pE_o {G : GW} {iv : IV} {jv : JV} {lb ci : Nat} (h : G.kd lb = ci) (hc : ci < 12) : pE G iv jv lb = .inr (ci, (List.range (nsl ci)).map (pV G iv jv lb ci)) := by
  subst h; simp only [pE, if_pos hc]
theorem pE_i {G : GW} {iv : IV} {jv : JV} {lb ci : Nat} (h : G.kd lb = ci) (hc : ci = 12 ∨ ci = 13 ∨ ci = 15) : pE G iv jv lb = .inl (G.cy ci, G.ln lb, .inl (iv lb)) := by
  subst h; rcases hc with h | h | h <;> simp [pE, h]
theorem pE_j {G : GW} {iv : IV} {jv : JV} {lb : Nat} (h : G.kd lb = 14) : pE G iv jv lb = .inl (G.cy 14, G.ln lb, .inr (.inl (jv lb))) := by simp [pE, h]
theorem pE_r {G : GW} {iv : IV} {jv : JV} {lb ci : Nat} (h : G.kd lb = ci) (hc : 16 ≤ ci) : pE G iv jv lb = .inl (G.cy ci, G.ln lb, .inr (.inr (.inr (.inr (fun j => (G.rv lb j).map G.ad))))) := by
  subst h; simp only [pE, if_neg (show ¬ G.kd lb < 12 by omega), if_neg (show ¬ G.kd lb = 14 by omega), if_neg (show ¬ G.kd lb < 16 by omega)]
theorem wl_get {G : GW} {iv : IV} {jv : JV} {lb : Nat} (h : lb ∈ G.L) : ∃ k : Nat, (wl G iv jv)[k]? = some (G.ad lb, pE G iv jv lb) ∧ G.L[k]? = some lb := by
  obtain ⟨k, hk⟩ := List.getElem?_of_mem h
  exact ⟨k, by simp [wl, hk], hk⟩
theorem nodup_ix {α : Type} {L : List α} (hn : L.Nodup) : ∀ {i j : Nat} {a : α}, L[i]? = some a → L[j]? = some a → i = j := by
  induction L with
  | nil => intro i j a h; simp at h
  | cons x l ih =>
    rw [List.nodup_cons] at hn
    intro i j a hi hj
    cases i with
    | zero =>
      cases j with
      | zero => rfl
      | succ j =>
        simp at hi hj
        subst hi
        exact absurd (List.mem_of_getElem? hj) hn.1
    | succ i =>
      cases j with
      | zero =>
        simp at hi hj
        subst hj
        exact absurd (List.mem_of_getElem? hi) hn.1
      | succ j =>
        simp at hi hj
        rw [ih hn.2 hi hj]
theorem map_set {α β : Type} {L : List α} {f f' : α → β} {k : Nat} {a : α} (hn : L.Nodup) (hk : L[k]? = some a) (h : ∀ b ∈ L, b ≠ a → f' b = f b) : (L.map f).set k (f' a) = L.map f' := by
  apply List.ext_getElem?
  intro i
  by_cases hi : k = i
  · subst hi
    have hl : k < L.length := (List.getElem?_eq_some_iff.mp hk).1
    rw [List.getElem?_set_self (by simpa using hl), List.getElem?_map, hk]; rfl
  · rw [List.getElem?_set_ne hi, List.getElem?_map, List.getElem?_map]
    cases hb : L[i]? with
    | none => rfl
    | some b =>
      have hba : b ≠ a := by
        rintro rfl
        exact hi (nodup_ix hn hk hb)
      simp [h b (List.mem_of_getElem? hb) hba]
theorem nodup_of_map {α β : Type} {L : List α} {f : α → β} (h : (L.map f).Nodup) : L.Nodup := by
  induction L with
  | nil => exact List.nodup_nil
  | cons a l ih =>
    rw [List.map_cons, List.nodup_cons] at h
    rw [List.nodup_cons]
    exact ⟨fun hm => h.1 (List.mem_map_of_mem hm), ih h.2⟩
theorem inj_of_map {α β : Type} {L : List α} {f : α → β} (h : (L.map f).Nodup) {a b : α} (ha : a ∈ L) (hb : b ∈ L) (e : f a = f b) : a = b := by
  induction L with
  | nil => cases ha
  | cons x l ih =>
    rw [List.map_cons, List.nodup_cons] at h
    rcases List.mem_cons.mp ha with rfl | ha' <;> rcases List.mem_cons.mp hb with rfl | hb'
    · rfl
    · exact absurd (e ▸ List.mem_map_of_mem hb') h.1
    · exact absurd (e ▸ List.mem_map_of_mem ha') h.1
    · exact ih h.2 ha' hb'
theorem wl_seti {G : GW} {iv : IV} {jv : JV} {lb ci k k0 : Nat} {v : Int32} (hn : (G.L.map G.ad).Nodup) (h0 : G.L[k0]? = some lb) (hk : G.kd lb = ci) (hc : ci < 12) (hkn : k < nsl ci) (hs : sty ci k = 0) :
    (wl G iv jv).set k0 (G.ad lb, .inr (ci, ((List.range (nsl ci)).map (pV G iv jv lb ci)).set k (.int v))) = wl G (up2 iv lb k v) jv := by
  have e1 : ((List.range (nsl ci)).map (pV G iv jv lb ci)).set k (.int v) = (List.range (nsl ci)).map (pV G (up2 iv lb k v) jv lb ci) := by
    have := map_set (L := List.range (nsl ci)) (f := pV G iv jv lb ci) (f' := pV G (up2 iv lb k v) jv lb ci) (k := k) (a := k) List.nodup_range (by simp [hkn]) (fun b _ hb => by simp only [pV, up2_k hb])
    rw [← this]
    congr 1
    simp only [pV, hs, up2_s]
  rw [e1, ← pE_o (iv := up2 iv lb k v) hk hc]
  exact map_set (f := fun lb => (G.ad lb, pE G iv jv lb)) (f' := fun b => (G.ad b, pE G (up2 iv lb k v) jv b)) (nodup_of_map hn) h0 (fun b _ hb => by
    have e2 : ∀ ci, pV G (up2 iv lb k v) jv b ci = pV G iv jv b ci := fun ci => funext fun j => by simp only [pV, up2_l hb]
    have e3 : up2 iv lb k v b = iv b := funext fun j => up2_l hb
    simp only [pE, e2, e3])
theorem wl_setj {G : GW} {iv : IV} {jv : JV} {lb ci k k0 : Nat} {v : Int64} (hn : (G.L.map G.ad).Nodup) (h0 : G.L[k0]? = some lb) (hk : G.kd lb = ci) (hc : ci < 12) (hkn : k < nsl ci) (hs : sty ci k = 1) :
    (wl G iv jv).set k0 (G.ad lb, .inr (ci, ((List.range (nsl ci)).map (pV G iv jv lb ci)).set k (.long v))) = wl G iv (up2 jv lb k v) := by
  have e1 : ((List.range (nsl ci)).map (pV G iv jv lb ci)).set k (.long v) = (List.range (nsl ci)).map (pV G iv (up2 jv lb k v) lb ci) := by
    have := map_set (L := List.range (nsl ci)) (f := pV G iv jv lb ci) (f' := pV G iv (up2 jv lb k v) lb ci) (k := k) (a := k) List.nodup_range (by simp [hkn]) (fun b _ hb => by simp only [pV, up2_k hb])
    rw [← this]
    congr 1
    simp only [pV, hs, up2_s]
  rw [e1, ← pE_o (jv := up2 jv lb k v) hk hc]
  exact map_set (f := fun lb => (G.ad lb, pE G iv jv lb)) (f' := fun b => (G.ad b, pE G iv (up2 jv lb k v) b)) (nodup_of_map hn) h0 (fun b _ hb => by
    have e2 : ∀ ci, pV G iv (up2 jv lb k v) b ci = pV G iv jv b ci := fun ci => funext fun j => by simp only [pV, up2_l hb]
    have e3 : up2 jv lb k v b = jv b := funext fun j => up2_l hb
    simp only [pE, e2, e3])
theorem setR_setR {G : GW} {f g : RV} : (G.setR f).setR g = G.setR g := rfl
theorem pV_R {G : GW} {iv : IV} {jv : JV} {f : RV} {b ci k : Nat} (h : f b k = G.rv b k) : pV (G.setR f) iv jv b ci k = pV G iv jv b ci k := by
  show (match sty ci k with | 0 => Value.int (iv b k) | 1 => .long (jv b k) | _ => va_rf ((f b k).map G.ad)) = _
  rw [h]; rfl
theorem wl_setr {G : GW} {iv : IV} {jv : JV} {lb ci k k0 : Nat} {v : Option Nat} (hn : (G.L.map G.ad).Nodup) (h0 : G.L[k0]? = some lb) (hk : G.kd lb = ci) (hc : ci < 12) (hkn : k < nsl ci) (hs : sty ci k = 2) :
    (wl G iv jv).set k0 (G.ad lb, .inr (ci, ((List.range (nsl ci)).map (pV G iv jv lb ci)).set k (va_rf (v.map G.ad)))) = wl (G.setR (up2 G.rv lb k v)) iv jv := by
  have e1 : ((List.range (nsl ci)).map (pV G iv jv lb ci)).set k (va_rf (v.map G.ad)) = (List.range (nsl ci)).map (pV (G.setR (up2 G.rv lb k v)) iv jv lb ci) := by
    have := map_set (L := List.range (nsl ci)) (f := pV G iv jv lb ci) (f' := pV (G.setR (up2 G.rv lb k v)) iv jv lb ci) (k := k) (a := k) List.nodup_range (by simp [hkn]) (fun b _ hb => pV_R (up2_k hb))
    rw [← this]
    congr 1
    show _ = (match sty ci k with | 0 => Value.int (iv lb k) | 1 => .long (jv lb k) | _ => va_rf ((up2 G.rv lb k v lb k).map G.ad))
    rw [hs, up2_s]
    rfl
  rw [e1, ← pE_o (G := G.setR (up2 G.rv lb k v)) (iv := iv) (jv := jv) hk hc]
  exact map_set (f := fun lb => (G.ad lb, pE G iv jv lb)) (f' := fun b => (G.ad b, pE (G.setR (up2 G.rv lb k v)) iv jv b)) (nodup_of_map hn) h0 (fun b _ hb => by
    have e2 : ∀ ci, pV (G.setR (up2 G.rv lb k v)) iv jv b ci = pV G iv jv b ci := fun ci => funext fun j => pV_R (up2_l hb)
    have e3 : ∀ j, (G.setR (up2 G.rv lb k v)).rv b j = G.rv b j := fun j => up2_l hb
    have e4 : (fun j => ((G.setR (up2 G.rv lb k v)).rv b j).map (G.setR (up2 G.rv lb k v)).ad) = fun j => (G.rv b j).map G.ad := funext fun j => by rw [e3 j]; rfl
    simp only [pE, e2, e4]
    rfl)
theorem upd_row {α : Type} {f : Nat → Nat → α} {lb n : Nat} {v : α} : (fun j => if j = n then v else f lb j) = up2 f lb n v lb := by funext j; simp [up2]
theorem wl_sti {G : GW} {iv : IV} {jv : JV} {lb ci n k0 : Nat} {v : Int32} (hn : (G.L.map G.ad).Nodup) (h0 : G.L[k0]? = some lb) (hk : G.kd lb = ci) (hc : ci = 12 ∨ ci = 13 ∨ ci = 15) :
    (wl G iv jv).set k0 (G.ad lb, .inl (G.cy ci, G.ln lb, .inl (upd (iv lb) n v))) = wl G (up2 iv lb n v) jv := by
  rw [show upd (iv lb) n v = up2 iv lb n v lb from funext fun j => by simp [upd, up2], ← pE_i (iv := up2 iv lb n v) (jv := jv) hk hc]
  exact map_set (f := fun lb => (G.ad lb, pE G iv jv lb)) (f' := fun b => (G.ad b, pE G (up2 iv lb n v) jv b)) (nodup_of_map hn) h0 (fun b _ hb => by
    have e2 : ∀ ci, pV G (up2 iv lb n v) jv b ci = pV G iv jv b ci := fun ci => funext fun j => by simp only [pV, up2_l hb]
    have e3 : up2 iv lb n v b = iv b := funext fun j => up2_l hb
    simp only [pE, e2, e3])
theorem wl_stj {G : GW} {iv : IV} {jv : JV} {lb n k0 : Nat} {v : Int64} (hn : (G.L.map G.ad).Nodup) (h0 : G.L[k0]? = some lb) (hk : G.kd lb = 14) :
    (wl G iv jv).set k0 (G.ad lb, .inl (G.cy 14, G.ln lb, .inr (.inl (vp_updL (jv lb) n v)))) = wl G iv (up2 jv lb n v) := by
  rw [show vp_updL (jv lb) n v = up2 jv lb n v lb from funext fun j => by simp [vp_updL, up2], ← pE_j (iv := iv) (jv := up2 jv lb n v) hk]
  exact map_set (f := fun lb => (G.ad lb, pE G iv jv lb)) (f' := fun b => (G.ad b, pE G iv (up2 jv lb n v) b)) (nodup_of_map hn) h0 (fun b _ hb => by
    have e2 : ∀ ci, pV G iv (up2 jv lb n v) b ci = pV G iv jv b ci := fun ci => funext fun j => by simp only [pV, up2_l hb]
    have e3 : up2 jv lb n v b = jv b := funext fun j => up2_l hb
    simp only [pE, e2, e3])
theorem wl_str {G : GW} {iv : IV} {jv : JV} {lb ci n k0 : Nat} {v : Option Nat} (hn : (G.L.map G.ad).Nodup) (h0 : G.L[k0]? = some lb) (hk : G.kd lb = ci) (hc : 16 ≤ ci) :
    (wl G iv jv).set k0 (G.ad lb, .inl (G.cy ci, G.ln lb, .inr (.inr (.inr (.inr (va_up (fun j => (G.rv lb j).map G.ad) n (v.map G.ad))))))) = wl (G.setR (up2 G.rv lb n v)) iv jv := by
  have e0 : va_up (fun j => (G.rv lb j).map G.ad) n (v.map G.ad) = fun j => ((G.setR (up2 G.rv lb n v)).rv lb j).map (G.setR (up2 G.rv lb n v)).ad := by
    funext j
    show _ = (up2 G.rv lb n v lb j).map G.ad
    by_cases hj : j = n
    · subst hj; simp [va_up, up2]
    · simp [va_up, up2, hj]
  rw [e0, show Sum.inl (G.cy ci, G.ln lb, Sum.inr (Sum.inr (Sum.inr (Sum.inr (fun j => ((G.setR (up2 G.rv lb n v)).rv lb j).map (G.setR (up2 G.rv lb n v)).ad))))) = pE (G.setR (up2 G.rv lb n v)) iv jv lb from (pE_r (G := G.setR (up2 G.rv lb n v)) (iv := iv) (jv := jv) hk hc).symm]
  exact map_set (f := fun lb => (G.ad lb, pE G iv jv lb)) (f' := fun b => (G.ad b, pE (G.setR (up2 G.rv lb n v)) iv jv b)) (nodup_of_map hn) h0 (fun b _ hb => by
    have e2 : ∀ ci, pV (G.setR (up2 G.rv lb n v)) iv jv b ci = pV G iv jv b ci := fun ci => funext fun j => pV_R (up2_l hb)
    have e3 : ∀ j, (G.setR (up2 G.rv lb n v)).rv b j = G.rv b j := fun j => up2_l hb
    have e4 : (fun j => ((G.setR (up2 G.rv lb n v)).rv b j).map (G.setR (up2 G.rv lb n v)).ad) = fun j => (G.rv b j).map G.ad := funext fun j => by rw [e3 j]; rfl
    simp only [pE, e2, e4]
    rfl)
/-- the things that a new one stands beside stay -/
theorem pE_add {G : GW} {iv : IV} {jv : JV} {n q z b : Nat} (hb : b ≠ n) (hrv : ∀ j c, G.rv b j = some c → c ≠ n) : pE (G.add n q z) (clr iv n 0) (clr jv n 0) b = pE G iv jv b := by
  have e0 : (G.add n q z).ln b = G.ln b := by show va_up G.ln n z b = _; simp [va_up, hb]
  have e1 : ∀ j, ((G.add n q z).rv b j).map (G.add n q z).ad = (G.rv b j).map G.ad := fun j => by
    show (clr G.rv n none b j).map (va_up G.ad n q) = _
    rw [clr_l hb]
    cases hc : G.rv b j with
    | none => rfl
    | some c => simp [va_up, hrv j c hc]
  have e2 : ∀ ci, pV (G.add n q z) (clr iv n 0) (clr jv n 0) b ci = pV G iv jv b ci := fun ci => funext fun j => by
    show (match sty ci j with | 0 => Value.int (clr iv n 0 b j) | 1 => .long (clr jv n 0 b j) | _ => va_rf (((G.add n q z).rv b j).map (G.add n q z).ad)) = _
    rw [clr_l hb, clr_l hb, e1 j]; rfl
  have e3 : clr iv n (0 : Int32) b = iv b := funext fun j => clr_l hb
  have e4 : clr jv n (0 : Int64) b = jv b := funext fun j => clr_l hb
  simp only [pE, e0, e2, e3, e4, e1]
  rfl
/-- no reference among the world's things is to a label that isn't there -/
def GW.cl (G : GW) : Prop := ∀ b ∈ G.L, ∀ j c, G.rv b j = some c → c ∈ G.L
theorem wl_add {G : GW} {iv : IV} {jv : JV} {n q z : Nat} (hn : n ∉ G.L) (hcl : G.cl) : wl (G.add n q z) (clr iv n 0) (clr jv n 0) = wl G iv jv ++ [(q, pE (G.add n q z) (clr iv n 0) (clr jv n 0) n)] := by
  show (G.L ++ [n]).map _ = _
  rw [List.map_append]
  congr 1
  · apply List.map_congr_left
    intro b hb
    have hbn : b ≠ n := fun h => hn (h ▸ hb)
    show (va_up G.ad n q b, _) = _
    rw [pE_add hbn (fun j c hc h => hn (h ▸ hcl b hb j c hc))]
    simp [va_up, hbn]
  · show [(va_up G.ad n q n, _)] = _
    simp [va_up]
theorem add_nodup {G : GW} {n q z : Nat} (h : (G.L.map G.ad).Nodup) (hn : n ∉ G.L) (hq : ∀ b ∈ G.L, G.ad b ≠ q) : ((G.add n q z).L.map (G.add n q z).ad).Nodup := by
  have e : (G.add n q z).L.map (G.add n q z).ad = G.L.map G.ad ++ [q] := by
    show (G.L ++ [n]).map (va_up G.ad n q) = _
    rw [List.map_append]
    congr 1
    · exact List.map_congr_left fun b hb => by simp [va_up, show b ≠ n from fun h => hn (h ▸ hb)]
    · simp [va_up]
  rw [e, List.nodup_append]
  refine ⟨h, by simp, fun a ha b hb => ?_⟩
  obtain ⟨c, hc, rfl⟩ := List.mem_map.mp ha
  rw [List.mem_singleton] at hb
  subst hb
  exact hq c hc
