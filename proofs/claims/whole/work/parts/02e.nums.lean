def bI (b : Bool) : Int32 := if b then 1 else 0
theorem bI_t : bI true = 1 := rfl
theorem bI_f : bI false = 0 := rfl
theorem bI_eq0 {b : Bool} : bI b = 0 ↔ b = false := by cases b <;> simp [bI]
theorem bI_eq1 {b : Bool} : bI b = 1 ↔ b = true := by cases b <;> simp [bI]
def oI (o : Option Nat) : Int32 := match o with
  | none => -1
  | some k => nI k
theorem oI_none : oI none = -1 := rfl
theorem oI_some {k : Nat} : oI (some k) = nI k := rfl
theorem nI_ne_m1 {k : Nat} (h : k < 2147483648) : nI k ≠ -1 := fun h1 => by
  have h2 := congrArg Int32.toInt h1
  rw [nI_toInt h] at h2
  have h3 : (-1 : Int32).toInt = -1 := by decide
  omega
theorem nI_0' : nI 0 = 0 := rfl
theorem nI_1' : nI 1 = 1 := rfl
theorem bI_dec {P : Prop} [h : Decidable P] : bI (decide P) = if P then 1 else 0 := by by_cases hP : P <;> simp [bI, hP]
section R3
variable {p : Program} {l : Launch} {e : Env} {R : Room} {s : State} {m : MethodId} {args : Array Value} {below : List Frame} {meth : Method} {c : Code} {H : Heap} {locs : List Loc} {cells slots : Nat} {Q : State → Prop}
variable {cc : ByteArray} {pc : Nat} {ls : Array Slot} {rest : List Value} {D : va_G} {cy : Nat → ClassId} {G : GW} {A : Nat → Prop} {H0 : Heap} {iv : IV} {jv : JV} {own : String} {lb ci k idx : Nat} {z : ZK}
variable {a b : Nat} {x y v : Int32}
theorem rn_as {v' : Int32} (h : v = v') (kk : W p l e R s m args below meth c H locs cells slots Q (F0 m pc ls (.int v' :: rest))) : W p l e R s m args below meth c H locs cells slots Q (F0 m pc ls (.int v :: rest)) := by rw [h]; exact kk
theorem rn_asj {v v' : Int64} (h : v = v') (kk : W p l e R s m args below meth c H locs cells slots Q (F0 m pc ls (.long v' :: rest))) : W p l e R s m args below meth c H locs cells slots Q (F0 m pc ls (.long v :: rest)) := by rw [h]; exact kk
theorem rn_iadd (hE : EN p c s m args cc own D cy z A) (hd : decode cc pc = .ok (.iadd, 1)) (kk : W p l e R s m args below meth c H locs cells slots Q (F0 m (pc + 1) ls (.int (nI (a + b)) :: rest))) : W p l e R s m args below meth c H locs cells slots Q (F0 m pc ls (.int (nI b) :: .int (nI a) :: rest)) := lv_iadd hE.1 hE.2.1 hd (by rw [nI_add]; exact kk)
theorem rn_isub (hE : EN p c s m args cc own D cy z A) (hd : decode cc pc = .ok (.isub, 1)) (h : b ≤ a) (kk : W p l e R s m args below meth c H locs cells slots Q (F0 m (pc + 1) ls (.int (nI (a - b)) :: rest))) : W p l e R s m args below meth c H locs cells slots Q (F0 m pc ls (.int (nI b) :: .int (nI a) :: rest)) := lv_isub hE.1 hE.2.1 hd (by rw [pk_sub h]; exact kk)
theorem rn_imul (hE : EN p c s m args cc own D cy z A) (hd : decode cc pc = .ok (.imul, 1)) (kk : W p l e R s m args below meth c H locs cells slots Q (F0 m (pc + 1) ls (.int (nI (a * b)) :: rest))) : W p l e R s m args below meth c H locs cells slots Q (F0 m pc ls (.int (nI b) :: .int (nI a) :: rest)) := lv_imul hE.1 hE.2.1 hd (by rw [pk_mul]; exact kk)
theorem rn_idiv (hE : EN p c s m args cc own D cy z A) (hd : decode cc pc = .ok (.idiv, 1)) (h0 : 0 < b) (hb : b < 2147483648) (ha : a < 2147483648) (kk : W p l e R s m args below meth c H locs cells slots Q (F0 m (pc + 1) ls (.int (nI (a / b)) :: rest))) : W p l e R s m args below meth c H locs cells slots Q (F0 m pc ls (.int (nI b) :: .int (nI a) :: rest)) := lv_idiv hE.1 hE.2.1 hd (nI_ne0 h0 hb) (by rw [pk_div ha h0 hb]; exact kk)
theorem rn_irem (hE : EN p c s m args cc own D cy z A) (hd : decode cc pc = .ok (.irem, 1)) (h0 : 0 < b) (hb : b < 2147483648) (ha : a < 2147483648) (kk : W p l e R s m args below meth c H locs cells slots Q (F0 m (pc + 1) ls (.int (nI (a % b)) :: rest))) : W p l e R s m args below meth c H locs cells slots Q (F0 m pc ls (.int (nI b) :: .int (nI a) :: rest)) := lv_irem hE.1 hE.2.1 hd (nI_ne0 h0 hb) (by rw [pk_rem ha h0 hb]; exact kk)
theorem rn_icmp_eq (hE : EN p c s m args cc own D cy z A) {off : Int} {tgt : Nat} (hd : decode cc pc = .ok (.if_icmp .eq off, 3)) (ht : (pc : Int) + off = (tgt : Int)) (ha : a < 2147483648) (hb : b < 2147483648) (kt : a = b → W p l e R s m args below meth c H locs cells slots Q (F0 m tgt ls (rest))) (kf : a ≠ b → W p l e R s m args below meth c H locs cells slots Q (F0 m (pc + 3) ls (rest))) : W p l e R s m args below meth c H locs cells slots Q (F0 m pc ls (.int (nI b) :: .int (nI a) :: rest)) :=
  lv_icmp_eq hE.1 hE.2.1 hd ht (fun c => kt ((nI_eq ha hb).mp c)) (fun c => kf (fun h => c (congrArg nI h)))
theorem rn_icmp_ne (hE : EN p c s m args cc own D cy z A) {off : Int} {tgt : Nat} (hd : decode cc pc = .ok (.if_icmp .ne off, 3)) (ht : (pc : Int) + off = (tgt : Int)) (ha : a < 2147483648) (hb : b < 2147483648) (kt : a ≠ b → W p l e R s m args below meth c H locs cells slots Q (F0 m tgt ls (rest))) (kf : a = b → W p l e R s m args below meth c H locs cells slots Q (F0 m (pc + 3) ls (rest))) : W p l e R s m args below meth c H locs cells slots Q (F0 m pc ls (.int (nI b) :: .int (nI a) :: rest)) :=
  lv_icmp_ne hE.1 hE.2.1 hd ht (fun c => kt (fun h => c (congrArg nI h))) (fun c => kf ((nI_eq ha hb).mp c))
theorem rn_icmp_lt (hE : EN p c s m args cc own D cy z A) {off : Int} {tgt : Nat} (hd : decode cc pc = .ok (.if_icmp .lt off, 3)) (ht : (pc : Int) + off = (tgt : Int)) (ha : a < 2147483648) (hb : b < 2147483648) (kt : a < b → W p l e R s m args below meth c H locs cells slots Q (F0 m tgt ls (rest))) (kf : b ≤ a → W p l e R s m args below meth c H locs cells slots Q (F0 m (pc + 3) ls (rest))) : W p l e R s m args below meth c H locs cells slots Q (F0 m pc ls (.int (nI b) :: .int (nI a) :: rest)) :=
  lv_icmp_lt hE.1 hE.2.1 hd ht (fun c => kt ((nI_ltI ha hb).mp c)) (fun c => kf (Nat.not_lt.mp fun h => c ((nI_ltI ha hb).mpr h)))
theorem rn_icmp_ge (hE : EN p c s m args cc own D cy z A) {off : Int} {tgt : Nat} (hd : decode cc pc = .ok (.if_icmp .ge off, 3)) (ht : (pc : Int) + off = (tgt : Int)) (ha : a < 2147483648) (hb : b < 2147483648) (kt : b ≤ a → W p l e R s m args below meth c H locs cells slots Q (F0 m tgt ls (rest))) (kf : a < b → W p l e R s m args below meth c H locs cells slots Q (F0 m (pc + 3) ls (rest))) : W p l e R s m args below meth c H locs cells slots Q (F0 m pc ls (.int (nI b) :: .int (nI a) :: rest)) :=
  lv_icmp_ge hE.1 hE.2.1 hd ht (fun c => kt ((nI_leI hb ha).mp c)) (fun c => kf (Nat.not_le.mp fun h => c ((nI_leI hb ha).mpr h)))
theorem rn_icmp_gt (hE : EN p c s m args cc own D cy z A) {off : Int} {tgt : Nat} (hd : decode cc pc = .ok (.if_icmp .gt off, 3)) (ht : (pc : Int) + off = (tgt : Int)) (ha : a < 2147483648) (hb : b < 2147483648) (kt : b < a → W p l e R s m args below meth c H locs cells slots Q (F0 m tgt ls (rest))) (kf : a ≤ b → W p l e R s m args below meth c H locs cells slots Q (F0 m (pc + 3) ls (rest))) : W p l e R s m args below meth c H locs cells slots Q (F0 m pc ls (.int (nI b) :: .int (nI a) :: rest)) :=
  lv_icmp_gt hE.1 hE.2.1 hd ht (fun c => kt ((nI_ltI hb ha).mp c)) (fun c => kf (Nat.not_lt.mp fun h => c ((nI_ltI hb ha).mpr h)))
theorem rn_icmp_le (hE : EN p c s m args cc own D cy z A) {off : Int} {tgt : Nat} (hd : decode cc pc = .ok (.if_icmp .le off, 3)) (ht : (pc : Int) + off = (tgt : Int)) (ha : a < 2147483648) (hb : b < 2147483648) (kt : a ≤ b → W p l e R s m args below meth c H locs cells slots Q (F0 m tgt ls (rest))) (kf : b < a → W p l e R s m args below meth c H locs cells slots Q (F0 m (pc + 3) ls (rest))) : W p l e R s m args below meth c H locs cells slots Q (F0 m pc ls (.int (nI b) :: .int (nI a) :: rest)) :=
  lv_icmp_le hE.1 hE.2.1 hd ht (fun c => kt ((nI_leI ha hb).mp c)) (fun c => kf (Nat.not_le.mp fun h => c ((nI_leI ha hb).mpr h)))
theorem rn_if_eq (hE : EN p c s m args cc own D cy z A) {off : Int} {tgt : Nat} (hd : decode cc pc = .ok (.ifCond .eq off, 3)) (ht : (pc : Int) + off = (tgt : Int)) (ha : a < 2147483648) (kt : a = 0 → W p l e R s m args below meth c H locs cells slots Q (F0 m tgt ls (rest))) (kf : a ≠ 0 → W p l e R s m args below meth c H locs cells slots Q (F0 m (pc + 3) ls (rest))) : W p l e R s m args below meth c H locs cells slots Q (F0 m pc ls (.int (nI a) :: rest)) :=
  have hz : 0 < 2147483648 := by decide
  lv_if_eq hE.1 hE.2.1 hd ht (fun c => kt ((nI_eq ha hz).mp c)) (fun c => kf (fun h => c (congrArg nI h)))
theorem rn_if_ne (hE : EN p c s m args cc own D cy z A) {off : Int} {tgt : Nat} (hd : decode cc pc = .ok (.ifCond .ne off, 3)) (ht : (pc : Int) + off = (tgt : Int)) (ha : a < 2147483648) (kt : a ≠ 0 → W p l e R s m args below meth c H locs cells slots Q (F0 m tgt ls (rest))) (kf : a = 0 → W p l e R s m args below meth c H locs cells slots Q (F0 m (pc + 3) ls (rest))) : W p l e R s m args below meth c H locs cells slots Q (F0 m pc ls (.int (nI a) :: rest)) :=
  have hz : 0 < 2147483648 := by decide
  lv_if_ne hE.1 hE.2.1 hd ht (fun c => kt (fun h => c (congrArg nI h))) (fun c => kf ((nI_eq ha hz).mp c))
theorem rn_if_lt (hE : EN p c s m args cc own D cy z A) {off : Int} {tgt : Nat} (hd : decode cc pc = .ok (.ifCond .lt off, 3)) (ht : (pc : Int) + off = (tgt : Int)) (ha : a < 2147483648) (kt : False → W p l e R s m args below meth c H locs cells slots Q (F0 m tgt ls (rest))) (kf : True → W p l e R s m args below meth c H locs cells slots Q (F0 m (pc + 3) ls (rest))) : W p l e R s m args below meth c H locs cells slots Q (F0 m pc ls (.int (nI a) :: rest)) :=
  have hz : 0 < 2147483648 := by decide
  lv_if_lt hE.1 hE.2.1 hd ht (fun c => kt (nI_pos ha c)) (fun c => kf (trivial))
theorem rn_if_ge (hE : EN p c s m args cc own D cy z A) {off : Int} {tgt : Nat} (hd : decode cc pc = .ok (.ifCond .ge off, 3)) (ht : (pc : Int) + off = (tgt : Int)) (ha : a < 2147483648) (kt : True → W p l e R s m args below meth c H locs cells slots Q (F0 m tgt ls (rest))) (kf : False → W p l e R s m args below meth c H locs cells slots Q (F0 m (pc + 3) ls (rest))) : W p l e R s m args below meth c H locs cells slots Q (F0 m pc ls (.int (nI a) :: rest)) :=
  have hz : 0 < 2147483648 := by decide
  lv_if_ge hE.1 hE.2.1 hd ht (fun c => kt (trivial)) (fun c => kf (c (nI_pos' ha)))
theorem rn_if_gt (hE : EN p c s m args cc own D cy z A) {off : Int} {tgt : Nat} (hd : decode cc pc = .ok (.ifCond .gt off, 3)) (ht : (pc : Int) + off = (tgt : Int)) (ha : a < 2147483648) (kt : 0 < a → W p l e R s m args below meth c H locs cells slots Q (F0 m tgt ls (rest))) (kf : a = 0 → W p l e R s m args below meth c H locs cells slots Q (F0 m (pc + 3) ls (rest))) : W p l e R s m args below meth c H locs cells slots Q (F0 m pc ls (.int (nI a) :: rest)) :=
  have hz : 0 < 2147483648 := by decide
  lv_if_gt hE.1 hE.2.1 hd ht (fun c => kt ((nI_ltI hz ha).mp c)) (fun c => kf (Nat.eq_zero_of_not_pos fun h => c ((nI_ltI hz ha).mpr h)))
theorem rn_if_le (hE : EN p c s m args cc own D cy z A) {off : Int} {tgt : Nat} (hd : decode cc pc = .ok (.ifCond .le off, 3)) (ht : (pc : Int) + off = (tgt : Int)) (ha : a < 2147483648) (kt : a = 0 → W p l e R s m args below meth c H locs cells slots Q (F0 m tgt ls (rest))) (kf : 0 < a → W p l e R s m args below meth c H locs cells slots Q (F0 m (pc + 3) ls (rest))) : W p l e R s m args below meth c H locs cells slots Q (F0 m pc ls (.int (nI a) :: rest)) :=
  have hz : 0 < 2147483648 := by decide
  lv_if_le hE.1 hE.2.1 hd ht (fun c => kt (Nat.le_zero.mp ((nI_leI ha hz).mp c))) (fun c => kf (Nat.pos_of_ne_zero fun h => c ((nI_leI ha hz).mpr (Nat.le_of_eq h))))
theorem rn_ifb_eq (hE : EN p c s m args cc own D cy z A) {off : Int} {tgt : Nat} {b : Bool} (hd : decode cc pc = .ok (.ifCond .eq off, 3)) (ht : (pc : Int) + off = (tgt : Int)) (kt : b = false → W p l e R s m args below meth c H locs cells slots Q (F0 m tgt ls (rest))) (kf : b = true → W p l e R s m args below meth c H locs cells slots Q (F0 m (pc + 3) ls (rest))) : W p l e R s m args below meth c H locs cells slots Q (F0 m pc ls (.int (bI b) :: rest)) :=
  lv_if_eq hE.1 hE.2.1 hd ht (fun c => kt (bI_eq0.mp c)) (fun c => kf (by cases b with | false => exact absurd rfl c | true => rfl))
theorem rn_ifb_ne (hE : EN p c s m args cc own D cy z A) {off : Int} {tgt : Nat} {b : Bool} (hd : decode cc pc = .ok (.ifCond .ne off, 3)) (ht : (pc : Int) + off = (tgt : Int)) (kt : b = true → W p l e R s m args below meth c H locs cells slots Q (F0 m tgt ls (rest))) (kf : b = false → W p l e R s m args below meth c H locs cells slots Q (F0 m (pc + 3) ls (rest))) : W p l e R s m args below meth c H locs cells slots Q (F0 m pc ls (.int (bI b) :: rest)) :=
  lv_if_ne hE.1 hE.2.1 hd ht (fun c => kt (by cases b with | false => exact absurd rfl c | true => rfl)) (fun c => kf (bI_eq0.mp c))
theorem rb_icmp_eq (hE : EN p c s m args cc own D cy z A) {off off2 : Int} {t1 t2 : Nat} (hd : decode cc pc = .ok (.if_icmp .eq off, 3)) (h1 : (pc : Int) + off = (t1 : Int)) (hd1 : decode cc (pc + 3) = .ok (.iconst 1, 1)) (hd2 : decode cc (pc + 4) = .ok (.goto off2, 3)) (h2 : ((pc + 4 : Nat) : Int) + off2 = (t2 : Int)) (hd3 : decode cc t1 = .ok (.iconst 0, 1)) (h3 : t1 + 1 = t2) (ha : a < 2147483648) (hb : b < 2147483648) (kk : W p l e R s m args below meth c H locs cells slots Q (F0 m t2 ls (.int (bI (decide (a ≠ b))) :: rest))) : W p l e R s m args below meth c H locs cells slots Q (F0 m pc ls (.int (nI b) :: .int (nI a) :: rest)) := by
  subst h3
  refine rn_icmp_eq (tgt := t1) hE hd h1 ha hb (fun c => ?_) (fun c => ?_)
  · refine lv_iconst (v := 0) hE.1 hE.2.1 hd3 (by decide) ?_
    rw [decide_eq_false (by omega)] at kk
    exact kk
  · refine lv_iconst (v := 1) hE.1 hE.2.1 hd1 (by decide) (lv_goto (tgt := t1 + 1) hE.1 hE.2.1 hd2 h2 ?_)
    rw [decide_eq_true c] at kk
    exact kk
theorem rb_icmp_ne (hE : EN p c s m args cc own D cy z A) {off off2 : Int} {t1 t2 : Nat} (hd : decode cc pc = .ok (.if_icmp .ne off, 3)) (h1 : (pc : Int) + off = (t1 : Int)) (hd1 : decode cc (pc + 3) = .ok (.iconst 1, 1)) (hd2 : decode cc (pc + 4) = .ok (.goto off2, 3)) (h2 : ((pc + 4 : Nat) : Int) + off2 = (t2 : Int)) (hd3 : decode cc t1 = .ok (.iconst 0, 1)) (h3 : t1 + 1 = t2) (ha : a < 2147483648) (hb : b < 2147483648) (kk : W p l e R s m args below meth c H locs cells slots Q (F0 m t2 ls (.int (bI (decide (a = b))) :: rest))) : W p l e R s m args below meth c H locs cells slots Q (F0 m pc ls (.int (nI b) :: .int (nI a) :: rest)) := by
  subst h3
  refine rn_icmp_ne (tgt := t1) hE hd h1 ha hb (fun c => ?_) (fun c => ?_)
  · refine lv_iconst (v := 0) hE.1 hE.2.1 hd3 (by decide) ?_
    rw [decide_eq_false (by omega)] at kk
    exact kk
  · refine lv_iconst (v := 1) hE.1 hE.2.1 hd1 (by decide) (lv_goto (tgt := t1 + 1) hE.1 hE.2.1 hd2 h2 ?_)
    rw [decide_eq_true c] at kk
    exact kk
theorem rb_icmp_lt (hE : EN p c s m args cc own D cy z A) {off off2 : Int} {t1 t2 : Nat} (hd : decode cc pc = .ok (.if_icmp .lt off, 3)) (h1 : (pc : Int) + off = (t1 : Int)) (hd1 : decode cc (pc + 3) = .ok (.iconst 1, 1)) (hd2 : decode cc (pc + 4) = .ok (.goto off2, 3)) (h2 : ((pc + 4 : Nat) : Int) + off2 = (t2 : Int)) (hd3 : decode cc t1 = .ok (.iconst 0, 1)) (h3 : t1 + 1 = t2) (ha : a < 2147483648) (hb : b < 2147483648) (kk : W p l e R s m args below meth c H locs cells slots Q (F0 m t2 ls (.int (bI (decide (b ≤ a))) :: rest))) : W p l e R s m args below meth c H locs cells slots Q (F0 m pc ls (.int (nI b) :: .int (nI a) :: rest)) := by
  subst h3
  refine rn_icmp_lt (tgt := t1) hE hd h1 ha hb (fun c => ?_) (fun c => ?_)
  · refine lv_iconst (v := 0) hE.1 hE.2.1 hd3 (by decide) ?_
    rw [decide_eq_false (by omega)] at kk
    exact kk
  · refine lv_iconst (v := 1) hE.1 hE.2.1 hd1 (by decide) (lv_goto (tgt := t1 + 1) hE.1 hE.2.1 hd2 h2 ?_)
    rw [decide_eq_true c] at kk
    exact kk
theorem rb_icmp_ge (hE : EN p c s m args cc own D cy z A) {off off2 : Int} {t1 t2 : Nat} (hd : decode cc pc = .ok (.if_icmp .ge off, 3)) (h1 : (pc : Int) + off = (t1 : Int)) (hd1 : decode cc (pc + 3) = .ok (.iconst 1, 1)) (hd2 : decode cc (pc + 4) = .ok (.goto off2, 3)) (h2 : ((pc + 4 : Nat) : Int) + off2 = (t2 : Int)) (hd3 : decode cc t1 = .ok (.iconst 0, 1)) (h3 : t1 + 1 = t2) (ha : a < 2147483648) (hb : b < 2147483648) (kk : W p l e R s m args below meth c H locs cells slots Q (F0 m t2 ls (.int (bI (decide (a < b))) :: rest))) : W p l e R s m args below meth c H locs cells slots Q (F0 m pc ls (.int (nI b) :: .int (nI a) :: rest)) := by
  subst h3
  refine rn_icmp_ge (tgt := t1) hE hd h1 ha hb (fun c => ?_) (fun c => ?_)
  · refine lv_iconst (v := 0) hE.1 hE.2.1 hd3 (by decide) ?_
    rw [decide_eq_false (by omega)] at kk
    exact kk
  · refine lv_iconst (v := 1) hE.1 hE.2.1 hd1 (by decide) (lv_goto (tgt := t1 + 1) hE.1 hE.2.1 hd2 h2 ?_)
    rw [decide_eq_true c] at kk
    exact kk
theorem rb_icmp_gt (hE : EN p c s m args cc own D cy z A) {off off2 : Int} {t1 t2 : Nat} (hd : decode cc pc = .ok (.if_icmp .gt off, 3)) (h1 : (pc : Int) + off = (t1 : Int)) (hd1 : decode cc (pc + 3) = .ok (.iconst 1, 1)) (hd2 : decode cc (pc + 4) = .ok (.goto off2, 3)) (h2 : ((pc + 4 : Nat) : Int) + off2 = (t2 : Int)) (hd3 : decode cc t1 = .ok (.iconst 0, 1)) (h3 : t1 + 1 = t2) (ha : a < 2147483648) (hb : b < 2147483648) (kk : W p l e R s m args below meth c H locs cells slots Q (F0 m t2 ls (.int (bI (decide (a ≤ b))) :: rest))) : W p l e R s m args below meth c H locs cells slots Q (F0 m pc ls (.int (nI b) :: .int (nI a) :: rest)) := by
  subst h3
  refine rn_icmp_gt (tgt := t1) hE hd h1 ha hb (fun c => ?_) (fun c => ?_)
  · refine lv_iconst (v := 0) hE.1 hE.2.1 hd3 (by decide) ?_
    rw [decide_eq_false (by omega)] at kk
    exact kk
  · refine lv_iconst (v := 1) hE.1 hE.2.1 hd1 (by decide) (lv_goto (tgt := t1 + 1) hE.1 hE.2.1 hd2 h2 ?_)
    rw [decide_eq_true c] at kk
    exact kk
theorem rb_icmp_le (hE : EN p c s m args cc own D cy z A) {off off2 : Int} {t1 t2 : Nat} (hd : decode cc pc = .ok (.if_icmp .le off, 3)) (h1 : (pc : Int) + off = (t1 : Int)) (hd1 : decode cc (pc + 3) = .ok (.iconst 1, 1)) (hd2 : decode cc (pc + 4) = .ok (.goto off2, 3)) (h2 : ((pc + 4 : Nat) : Int) + off2 = (t2 : Int)) (hd3 : decode cc t1 = .ok (.iconst 0, 1)) (h3 : t1 + 1 = t2) (ha : a < 2147483648) (hb : b < 2147483648) (kk : W p l e R s m args below meth c H locs cells slots Q (F0 m t2 ls (.int (bI (decide (b < a))) :: rest))) : W p l e R s m args below meth c H locs cells slots Q (F0 m pc ls (.int (nI b) :: .int (nI a) :: rest)) := by
  subst h3
  refine rn_icmp_le (tgt := t1) hE hd h1 ha hb (fun c => ?_) (fun c => ?_)
  · refine lv_iconst (v := 0) hE.1 hE.2.1 hd3 (by decide) ?_
    rw [decide_eq_false (by omega)] at kk
    exact kk
  · refine lv_iconst (v := 1) hE.1 hE.2.1 hd1 (by decide) (lv_goto (tgt := t1 + 1) hE.1 hE.2.1 hd2 h2 ?_)
    rw [decide_eq_true c] at kk
    exact kk
theorem rb_raw_eq (hE : EN p c s m args cc own D cy z A) {off off2 : Int} {t1 t2 : Nat} (hd : decode cc pc = .ok (.if_icmp .eq off, 3)) (h1 : (pc : Int) + off = (t1 : Int)) (hd1 : decode cc (pc + 3) = .ok (.iconst 1, 1)) (hd2 : decode cc (pc + 4) = .ok (.goto off2, 3)) (h2 : ((pc + 4 : Nat) : Int) + off2 = (t2 : Int)) (hd3 : decode cc t1 = .ok (.iconst 0, 1)) (h3 : t1 + 1 = t2) (kk : W p l e R s m args below meth c H locs cells slots Q (F0 m t2 ls (.int (bI (decide (x ≠ y))) :: rest))) : W p l e R s m args below meth c H locs cells slots Q (F0 m pc ls (.int y :: .int x :: rest)) := by
  subst h3
  refine lv_icmp_eq (tgt := t1) hE.1 hE.2.1 hd h1 (fun c => ?_) (fun c => ?_)
  · refine lv_iconst (v := 0) hE.1 hE.2.1 hd3 (by decide) ?_
    rw [decide_eq_false (fun h => h c)] at kk
    exact kk
  · refine lv_iconst (v := 1) hE.1 hE.2.1 hd1 (by decide) (lv_goto (tgt := t1 + 1) hE.1 hE.2.1 hd2 h2 ?_)
    rw [decide_eq_true c] at kk
    exact kk
theorem rb_raw_ne (hE : EN p c s m args cc own D cy z A) {off off2 : Int} {t1 t2 : Nat} (hd : decode cc pc = .ok (.if_icmp .ne off, 3)) (h1 : (pc : Int) + off = (t1 : Int)) (hd1 : decode cc (pc + 3) = .ok (.iconst 1, 1)) (hd2 : decode cc (pc + 4) = .ok (.goto off2, 3)) (h2 : ((pc + 4 : Nat) : Int) + off2 = (t2 : Int)) (hd3 : decode cc t1 = .ok (.iconst 0, 1)) (h3 : t1 + 1 = t2) (kk : W p l e R s m args below meth c H locs cells slots Q (F0 m t2 ls (.int (bI (decide (x = y))) :: rest))) : W p l e R s m args below meth c H locs cells slots Q (F0 m pc ls (.int y :: .int x :: rest)) := by
  subst h3
  refine lv_icmp_ne (tgt := t1) hE.1 hE.2.1 hd h1 (fun c => ?_) (fun c => ?_)
  · refine lv_iconst (v := 0) hE.1 hE.2.1 hd3 (by decide) ?_
    rw [decide_eq_false c] at kk
    exact kk
  · refine lv_iconst (v := 1) hE.1 hE.2.1 hd1 (by decide) (lv_goto (tgt := t1 + 1) hE.1 hE.2.1 hd2 h2 ?_)
    rw [decide_eq_true c] at kk
    exact kk
section CC
variable {y : MethodName} {c2 : ByteArray} {nL nL0 n fr lo mc ms : Nat} {rt : Option FieldType} {As st : List Value}
theorem rg_VI {post : Int32 → GW → IV → JV → Prop} (hE : EN p c s m args cc own D cy z A) (hml : c.maxLocals = nL0) (hH : HS D cy G A s.heap iv jv H locs) (hw : MV own idx ci y c2 nL rt n) (hM : cI l z y c2 nL rt fr lo mc ms (.ref (G.ad lb) :: As) G iv jv post) (hm : lb ∈ G.L) (hk : G.kd lb = ci) (h12 : ci < 12) (hst : st = As.reverse ++ .ref (G.ad lb) :: rest) (hR : fr + 1 ≤ R.frames ∧ 8 + (nL + 11) + lo ≤ R.locals) (hn : As.length = n) (hsz : ls.size = nL0) (hr8 : (rest.map fun v => v.category).sum ≤ 8) (hd : decode cc pc = .ok (.invokevirtual idx, 3)) (hf : cells + mc ≤ R.cells ∧ slots + ms ≤ R.slots) (kk : ∀ (r : Int32) (G' : GW) (iv' : IV) (jv' : JV) (H1 : Heap) (locs1 : List Loc), post r G' iv' jv' → HS D cy G' A s.heap iv' jv' H1 locs1 → W p l e R s m args below meth c H1 locs1 (cells + mc) (slots + ms) Q (F0 m (pc + 3) ls (.int r :: rest))) : W p l e R s m args below meth c H locs cells slots Q (F0 m pc ls (st)) := by
  subst hst
  exact rg_backI hE hH (rg_runV hE hml hH hw (hM H.size) hm hk h12 hR hn hsz hr8 hd hf) kk
theorem rg_SI {post : Int32 → GW → IV → JV → Prop} (hE : EN p c s m args cc own D cy z A) (hml : c.maxLocals = nL0) (hH : HS D cy G A s.heap iv jv H locs) (hw : MS own idx y c2 nL rt n) (hM : cI l z y c2 nL rt fr lo mc ms As G iv jv post) (hst : st = As.reverse ++ rest) (hR : fr + 1 ≤ R.frames ∧ 8 + (nL + 11) + lo ≤ R.locals) (hn : As.length = n) (hsz : ls.size = nL0) (hr8 : (rest.map fun v => v.category).sum ≤ 8) (hd : decode cc pc = .ok (.invokestatic idx, 3)) (hf : cells + mc ≤ R.cells ∧ slots + ms ≤ R.slots) (kk : ∀ (r : Int32) (G' : GW) (iv' : IV) (jv' : JV) (H1 : Heap) (locs1 : List Loc), post r G' iv' jv' → HS D cy G' A s.heap iv' jv' H1 locs1 → W p l e R s m args below meth c H1 locs1 (cells + mc) (slots + ms) Q (F0 m (pc + 3) ls (.int r :: rest))) : W p l e R s m args below meth c H locs cells slots Q (F0 m pc ls (st)) := by
  subst hst
  exact rg_backI hE hH (rg_runS hE hml hH hw (hM H.size) hR hn hsz hr8 hd hf) kk
theorem rg_XI {post : Int32 → GW → IV → JV → Prop} {C : String} {b : Addr} (hE : EN p c s m args cc own D cy z A) (hml : c.maxLocals = nL0) (hH : HS D cy G A s.heap iv jv H locs) (hw : MX own idx C y c2 nL rt n) (hM : cI l z y c2 nL rt fr lo mc ms (.ref b :: As) G iv jv post) (hrc : ∃ cell : Cell, H[b]? = some cell ∧ cell.vm.isStatics = false ∧ s.vm.findClass C = some cell.cls) (hst : st = As.reverse ++ .ref b :: rest) (hR : fr + 1 ≤ R.frames ∧ 8 + (nL + 11) + lo ≤ R.locals) (hn : As.length = n) (hsz : ls.size = nL0) (hr8 : (rest.map fun v => v.category).sum ≤ 8) (hd : decode cc pc = .ok (.invokevirtual idx, 3)) (hf : cells + mc ≤ R.cells ∧ slots + ms ≤ R.slots) (kk : ∀ (r : Int32) (G' : GW) (iv' : IV) (jv' : JV) (H1 : Heap) (locs1 : List Loc), post r G' iv' jv' → HS D cy G' A s.heap iv' jv' H1 locs1 → W p l e R s m args below meth c H1 locs1 (cells + mc) (slots + ms) Q (F0 m (pc + 3) ls (.int r :: rest))) : W p l e R s m args below meth c H locs cells slots Q (F0 m pc ls (st)) := by
  subst hst
  exact rg_backI hE hH (rg_runX hE hml hH hw (hM H.size) hrc hR hn hsz hr8 hd hf) kk
theorem rg_VJ {post : Int64 → GW → IV → JV → Prop} (hE : EN p c s m args cc own D cy z A) (hml : c.maxLocals = nL0) (hH : HS D cy G A s.heap iv jv H locs) (hw : MV own idx ci y c2 nL rt n) (hM : cJ l z y c2 nL rt fr lo mc ms (.ref (G.ad lb) :: As) G iv jv post) (hm : lb ∈ G.L) (hk : G.kd lb = ci) (h12 : ci < 12) (hst : st = As.reverse ++ .ref (G.ad lb) :: rest) (hR : fr + 1 ≤ R.frames ∧ 8 + (nL + 11) + lo ≤ R.locals) (hn : As.length = n) (hsz : ls.size = nL0) (hr8 : (rest.map fun v => v.category).sum ≤ 8) (hd : decode cc pc = .ok (.invokevirtual idx, 3)) (hf : cells + mc ≤ R.cells ∧ slots + ms ≤ R.slots) (kk : ∀ (r : Int64) (G' : GW) (iv' : IV) (jv' : JV) (H1 : Heap) (locs1 : List Loc), post r G' iv' jv' → HS D cy G' A s.heap iv' jv' H1 locs1 → W p l e R s m args below meth c H1 locs1 (cells + mc) (slots + ms) Q (F0 m (pc + 3) ls (.long r :: rest))) : W p l e R s m args below meth c H locs cells slots Q (F0 m pc ls (st)) := by
  subst hst
  exact rg_backJ hE hH (rg_runV hE hml hH hw (hM H.size) hm hk h12 hR hn hsz hr8 hd hf) kk
theorem rg_SJ {post : Int64 → GW → IV → JV → Prop} (hE : EN p c s m args cc own D cy z A) (hml : c.maxLocals = nL0) (hH : HS D cy G A s.heap iv jv H locs) (hw : MS own idx y c2 nL rt n) (hM : cJ l z y c2 nL rt fr lo mc ms As G iv jv post) (hst : st = As.reverse ++ rest) (hR : fr + 1 ≤ R.frames ∧ 8 + (nL + 11) + lo ≤ R.locals) (hn : As.length = n) (hsz : ls.size = nL0) (hr8 : (rest.map fun v => v.category).sum ≤ 8) (hd : decode cc pc = .ok (.invokestatic idx, 3)) (hf : cells + mc ≤ R.cells ∧ slots + ms ≤ R.slots) (kk : ∀ (r : Int64) (G' : GW) (iv' : IV) (jv' : JV) (H1 : Heap) (locs1 : List Loc), post r G' iv' jv' → HS D cy G' A s.heap iv' jv' H1 locs1 → W p l e R s m args below meth c H1 locs1 (cells + mc) (slots + ms) Q (F0 m (pc + 3) ls (.long r :: rest))) : W p l e R s m args below meth c H locs cells slots Q (F0 m pc ls (st)) := by
  subst hst
  exact rg_backJ hE hH (rg_runS hE hml hH hw (hM H.size) hR hn hsz hr8 hd hf) kk
theorem rg_XJ {post : Int64 → GW → IV → JV → Prop} {C : String} {b : Addr} (hE : EN p c s m args cc own D cy z A) (hml : c.maxLocals = nL0) (hH : HS D cy G A s.heap iv jv H locs) (hw : MX own idx C y c2 nL rt n) (hM : cJ l z y c2 nL rt fr lo mc ms (.ref b :: As) G iv jv post) (hrc : ∃ cell : Cell, H[b]? = some cell ∧ cell.vm.isStatics = false ∧ s.vm.findClass C = some cell.cls) (hst : st = As.reverse ++ .ref b :: rest) (hR : fr + 1 ≤ R.frames ∧ 8 + (nL + 11) + lo ≤ R.locals) (hn : As.length = n) (hsz : ls.size = nL0) (hr8 : (rest.map fun v => v.category).sum ≤ 8) (hd : decode cc pc = .ok (.invokevirtual idx, 3)) (hf : cells + mc ≤ R.cells ∧ slots + ms ≤ R.slots) (kk : ∀ (r : Int64) (G' : GW) (iv' : IV) (jv' : JV) (H1 : Heap) (locs1 : List Loc), post r G' iv' jv' → HS D cy G' A s.heap iv' jv' H1 locs1 → W p l e R s m args below meth c H1 locs1 (cells + mc) (slots + ms) Q (F0 m (pc + 3) ls (.long r :: rest))) : W p l e R s m args below meth c H locs cells slots Q (F0 m pc ls (st)) := by
  subst hst
  exact rg_backJ hE hH (rg_runX hE hml hH hw (hM H.size) hrc hR hn hsz hr8 hd hf) kk
theorem rg_VV {post : GW → IV → JV → Prop} (hE : EN p c s m args cc own D cy z A) (hml : c.maxLocals = nL0) (hH : HS D cy G A s.heap iv jv H locs) (hw : MV own idx ci y c2 nL rt n) (hM : cV l z y c2 nL rt fr lo mc ms (.ref (G.ad lb) :: As) G iv jv post) (hm : lb ∈ G.L) (hk : G.kd lb = ci) (h12 : ci < 12) (hst : st = As.reverse ++ .ref (G.ad lb) :: rest) (hR : fr + 1 ≤ R.frames ∧ 8 + (nL + 11) + lo ≤ R.locals) (hn : As.length = n) (hsz : ls.size = nL0) (hr8 : (rest.map fun v => v.category).sum ≤ 8) (hd : decode cc pc = .ok (.invokevirtual idx, 3)) (hf : cells + mc ≤ R.cells ∧ slots + ms ≤ R.slots) (kk : ∀ (G' : GW) (iv' : IV) (jv' : JV) (H1 : Heap) (locs1 : List Loc), post G' iv' jv' → HS D cy G' A s.heap iv' jv' H1 locs1 → W p l e R s m args below meth c H1 locs1 (cells + mc) (slots + ms) Q (F0 m (pc + 3) ls (rest))) : W p l e R s m args below meth c H locs cells slots Q (F0 m pc ls (st)) := by
  subst hst
  exact rg_backV hE hH (rg_runV hE hml hH hw (hM H.size) hm hk h12 hR hn hsz hr8 hd hf) kk
theorem rg_SV {post : GW → IV → JV → Prop} (hE : EN p c s m args cc own D cy z A) (hml : c.maxLocals = nL0) (hH : HS D cy G A s.heap iv jv H locs) (hw : MS own idx y c2 nL rt n) (hM : cV l z y c2 nL rt fr lo mc ms As G iv jv post) (hst : st = As.reverse ++ rest) (hR : fr + 1 ≤ R.frames ∧ 8 + (nL + 11) + lo ≤ R.locals) (hn : As.length = n) (hsz : ls.size = nL0) (hr8 : (rest.map fun v => v.category).sum ≤ 8) (hd : decode cc pc = .ok (.invokestatic idx, 3)) (hf : cells + mc ≤ R.cells ∧ slots + ms ≤ R.slots) (kk : ∀ (G' : GW) (iv' : IV) (jv' : JV) (H1 : Heap) (locs1 : List Loc), post G' iv' jv' → HS D cy G' A s.heap iv' jv' H1 locs1 → W p l e R s m args below meth c H1 locs1 (cells + mc) (slots + ms) Q (F0 m (pc + 3) ls (rest))) : W p l e R s m args below meth c H locs cells slots Q (F0 m pc ls (st)) := by
  subst hst
  exact rg_backV hE hH (rg_runS hE hml hH hw (hM H.size) hR hn hsz hr8 hd hf) kk
theorem rg_XV {post : GW → IV → JV → Prop} {C : String} {b : Addr} (hE : EN p c s m args cc own D cy z A) (hml : c.maxLocals = nL0) (hH : HS D cy G A s.heap iv jv H locs) (hw : MX own idx C y c2 nL rt n) (hM : cV l z y c2 nL rt fr lo mc ms (.ref b :: As) G iv jv post) (hrc : ∃ cell : Cell, H[b]? = some cell ∧ cell.vm.isStatics = false ∧ s.vm.findClass C = some cell.cls) (hst : st = As.reverse ++ .ref b :: rest) (hR : fr + 1 ≤ R.frames ∧ 8 + (nL + 11) + lo ≤ R.locals) (hn : As.length = n) (hsz : ls.size = nL0) (hr8 : (rest.map fun v => v.category).sum ≤ 8) (hd : decode cc pc = .ok (.invokevirtual idx, 3)) (hf : cells + mc ≤ R.cells ∧ slots + ms ≤ R.slots) (kk : ∀ (G' : GW) (iv' : IV) (jv' : JV) (H1 : Heap) (locs1 : List Loc), post G' iv' jv' → HS D cy G' A s.heap iv' jv' H1 locs1 → W p l e R s m args below meth c H1 locs1 (cells + mc) (slots + ms) Q (F0 m (pc + 3) ls (rest))) : W p l e R s m args below meth c H locs cells slots Q (F0 m pc ls (st)) := by
  subst hst
  exact rg_backV hE hH (rg_runX hE hml hH hw (hM H.size) hrc hR hn hsz hr8 hd hf) kk
theorem rg_IV {post : GW → IV → JV → Prop} (hE : EN p c s m args cc own D cy z A) (hml : c.maxLocals = nL0) (hH : HS D cy G A s.heap iv jv H locs) (hw : MI own idx y c2 nL n) (hM : cV l z y c2 nL none fr lo mc ms (.ref (G.ad lb) :: As) G iv jv post) (hst : st = As.reverse ++ .ref (G.ad lb) :: rest) (hR : fr + 1 ≤ R.frames ∧ 8 + (nL + 11) + lo ≤ R.locals) (hn : As.length = n) (hsz : ls.size = nL0) (hr8 : (rest.map fun v => v.category).sum ≤ 8) (hd : decode cc pc = .ok (.invokespecial idx, 3)) (hf : cells + mc ≤ R.cells ∧ slots + ms ≤ R.slots) (kk : ∀ (G' : GW) (iv' : IV) (jv' : JV) (H1 : Heap) (locs1 : List Loc), post G' iv' jv' → HS D cy G' A s.heap iv' jv' H1 locs1 → W p l e R s m args below meth c H1 locs1 (cells + mc) (slots + ms) Q (F0 m (pc + 3) ls (rest))) : W p l e R s m args below meth c H locs cells slots Q (F0 m pc ls (st)) := by
  subst hst
  exact rg_backV hE hH (rg_runI hE hml hH hw (hM H.size) hR hn hsz hr8 hd hf) kk
theorem rg_VR {post : Nat → GW → IV → JV → Prop} (hE : EN p c s m args cc own D cy z A) (hml : c.maxLocals = nL0) (hH : HS D cy G A s.heap iv jv H locs) (hw : MV own idx ci y c2 nL rt n) (hM : cR l z y c2 nL rt fr lo mc ms (.ref (G.ad lb) :: As) G iv jv post) (hm : lb ∈ G.L) (hk : G.kd lb = ci) (h12 : ci < 12) (hst : st = As.reverse ++ .ref (G.ad lb) :: rest) (hR : fr + 1 ≤ R.frames ∧ 8 + (nL + 11) + lo ≤ R.locals) (hn : As.length = n) (hsz : ls.size = nL0) (hr8 : (rest.map fun v => v.category).sum ≤ 8) (hd : decode cc pc = .ok (.invokevirtual idx, 3)) (hf : cells + mc ≤ R.cells ∧ slots + ms ≤ R.slots) (kk : ∀ (r : Nat) (G' : GW) (iv' : IV) (jv' : JV) (H1 : Heap) (locs1 : List Loc), post r G' iv' jv' → HS D cy G' A s.heap iv' jv' H1 locs1 → W p l e R s m args below meth c H1 locs1 (cells + mc) (slots + ms) Q (F0 m (pc + 3) ls (.ref (G'.ad r) :: rest))) : W p l e R s m args below meth c H locs cells slots Q (F0 m pc ls (st)) := by
  subst hst
  exact rg_backR hE hH (rg_runV hE hml hH hw (hM H.size) hm hk h12 hR hn hsz hr8 hd hf) kk
theorem rg_SR {post : Nat → GW → IV → JV → Prop} (hE : EN p c s m args cc own D cy z A) (hml : c.maxLocals = nL0) (hH : HS D cy G A s.heap iv jv H locs) (hw : MS own idx y c2 nL rt n) (hM : cR l z y c2 nL rt fr lo mc ms As G iv jv post) (hst : st = As.reverse ++ rest) (hR : fr + 1 ≤ R.frames ∧ 8 + (nL + 11) + lo ≤ R.locals) (hn : As.length = n) (hsz : ls.size = nL0) (hr8 : (rest.map fun v => v.category).sum ≤ 8) (hd : decode cc pc = .ok (.invokestatic idx, 3)) (hf : cells + mc ≤ R.cells ∧ slots + ms ≤ R.slots) (kk : ∀ (r : Nat) (G' : GW) (iv' : IV) (jv' : JV) (H1 : Heap) (locs1 : List Loc), post r G' iv' jv' → HS D cy G' A s.heap iv' jv' H1 locs1 → W p l e R s m args below meth c H1 locs1 (cells + mc) (slots + ms) Q (F0 m (pc + 3) ls (.ref (G'.ad r) :: rest))) : W p l e R s m args below meth c H locs cells slots Q (F0 m pc ls (st)) := by
  subst hst
  exact rg_backR hE hH (rg_runS hE hml hH hw (hM H.size) hR hn hsz hr8 hd hf) kk
theorem rg_XR {post : Nat → GW → IV → JV → Prop} {C : String} {b : Addr} (hE : EN p c s m args cc own D cy z A) (hml : c.maxLocals = nL0) (hH : HS D cy G A s.heap iv jv H locs) (hw : MX own idx C y c2 nL rt n) (hM : cR l z y c2 nL rt fr lo mc ms (.ref b :: As) G iv jv post) (hrc : ∃ cell : Cell, H[b]? = some cell ∧ cell.vm.isStatics = false ∧ s.vm.findClass C = some cell.cls) (hst : st = As.reverse ++ .ref b :: rest) (hR : fr + 1 ≤ R.frames ∧ 8 + (nL + 11) + lo ≤ R.locals) (hn : As.length = n) (hsz : ls.size = nL0) (hr8 : (rest.map fun v => v.category).sum ≤ 8) (hd : decode cc pc = .ok (.invokevirtual idx, 3)) (hf : cells + mc ≤ R.cells ∧ slots + ms ≤ R.slots) (kk : ∀ (r : Nat) (G' : GW) (iv' : IV) (jv' : JV) (H1 : Heap) (locs1 : List Loc), post r G' iv' jv' → HS D cy G' A s.heap iv' jv' H1 locs1 → W p l e R s m args below meth c H1 locs1 (cells + mc) (slots + ms) Q (F0 m (pc + 3) ls (.ref (G'.ad r) :: rest))) : W p l e R s m args below meth c H locs cells slots Q (F0 m pc ls (st)) := by
  subst hst
  exact rg_backR hE hH (rg_runX hE hml hH hw (hM H.size) hrc hR hn hsz hr8 hd hf) kk
end CC
end R3
