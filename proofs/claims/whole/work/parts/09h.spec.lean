/-! ===== the start: what the Statement gives ===== -/
theorem kn_of {ci : Nat} {C : String} {T : u_T} {N n : Nat} (h : CF ci) (hv : vwCl[ci]? = some (C, T, N)) {s : State} {args : Array Value} (hts : ∀ w ∈ bw, w.before args s = true) (hi : Cond.instantiable C n ∈ bw) : ∃ r : ClassId × (Nat → Nat), ∀ q, vwCl[ci]? = some q → u_Kn s q.1 q.2.1 q.2.2 r.1 r.2 := by
  obtain ⟨-, C', T', ty0, hcl, hws, -⟩ := h
  cases Option.some.inj (hv.symm.trans hcl)
  obtain ⟨c, i, hk⟩ := u_known hts hws (hts _ hi)
  exact ⟨(c, i), fun q hq => by cases Option.some.inj (hcl.symm.trans hq); exact hk⟩
theorem st_D {s : State} {args : Array Value} (hts : ∀ w ∈ bw, w.before args s = true) : ∃ D : va_G, ∀ (k : Nat) (q : vw_C), vwCl[k]? = some q → u_Kn s q.1 q.2.1 q.2.2 (D.1 k) (D.2 k) := by
  have h : ∀ k : Nat, ∃ r : ClassId × (Nat → Nat), ∀ q, vwCl[k]? = some q → u_Kn s q.1 q.2.1 q.2.2 r.1 r.2 := fun k => by
    match k with
    | 0 => exact kn_of cf_X0 rfl hts (b1 94 rfl rfl)
    | 1 => exact kn_of cf_X1 rfl hts (b1 87 rfl rfl)
    | 2 => exact kn_of cf_X2 rfl hts (b1 39 rfl rfl)
    | 3 => exact kn_of cf_X3 rfl hts (b1 191 rfl rfl)
    | 4 => exact kn_of cf_X4 rfl hts (b1 33 rfl rfl)
    | 5 => exact kn_of cf_X5 rfl hts (b4 58 rfl rfl)
    | 6 => exact kn_of cf_X6 rfl hts (b1 117 rfl rfl)
    | 7 => exact kn_of cf_X7 rfl hts (b3 23 rfl rfl)
    | 8 => exact kn_of cf_X8 rfl hts (b3 31 rfl rfl)
    | 9 => exact kn_of cf_X9 rfl hts (b1 172 rfl rfl)
    | 10 => exact kn_of cf_X10 rfl hts (b1 25 rfl rfl)
    | 11 => exact kn_of cf_X11 rfl hts (b5 14 rfl rfl)
    | k + 12 => exact ⟨(0, fun _ => 0), fun q hq => by simp [vwCl] at hq⟩
  obtain ⟨f, hf⟩ := Classical.skolem.mp h
  exact ⟨(fun k => (f k).1, fun k => (f k).2), fun k q hq => hf k q hq⟩
theorem ar_p {s : State} {args : Array Value} {ty : FieldType} (h : (Cond.arrayClass ty).before args s = true) : ∃ cA, ArrOfT s cA ty ∧ s.vm.findClass ("[" ++ ty.toString) = some cA := by
  obtain ⟨c, k, comp, h1, h2, h3⟩ := Cond.arrayClass_spec h
  exact ⟨c, fun n z => ⟨fun k' h9 => by simp [arrV] at h9, k, h2, comp, h3⟩, h1⟩
theorem ar_o {s : State} {args : Array Value} {C : String} (h : (Cond.arrayOver (.object C)).before args s = true) : ∃ cA, ArrOfT s cA (.object C) ∧ va_RA s cA (.object C) := by
  obtain ⟨comp, c, k, h0, -, h2, h3, h4⟩ := Cond.arrayOver_spec h
  exact ⟨c, fun n z => ⟨fun k' h9 => by simp [arrV] at h9, k, h2, comp, h3⟩, k, comp, h2, h3, h0, h4⟩
theorem ar_a {s : State} {args : Array Value} {t : FieldType} (h : (Cond.arrayOver (.array t)).before args s = true) : ∃ cA, ArrOfT s cA (.array t) ∧ va_RA s cA (.array t) := by
  obtain ⟨comp, c, k, h0, -, h2, h3, h4⟩ := arrayOverA_spec h
  exact ⟨c, fun n z => ⟨fun k' h9 => by simp [arrV] at h9, k, h2, comp, h3⟩, h4⟩
theorem st_cy {s : State} {args : Array Value} (hts : ∀ w ∈ lw_tbl, w.before args s = true) : ∃ cy : Nat → ClassId, ∀ (k : Nat) (q : ClassId × FieldType), (tysC cy)[k]? = some q → ArrOfT s q.1 q.2 ∧ va_RA s q.1 q.2 := by
  obtain ⟨c12, a12, r12⟩ := ar_p (hts _ (bw_in (b1 72 rfl rfl)))
  obtain ⟨c13, a13, r13⟩ := ar_p (hts _ (bw_in (b1 73 rfl rfl)))
  obtain ⟨c14, a14, r14⟩ := ar_p (hts _ (bw_in (b1 74 rfl rfl)))
  obtain ⟨c15, a15, r15⟩ := ar_p (hts _ (bw_in (b3 75 rfl rfl)))
  obtain ⟨c16, a16, r16⟩ := ar_o (hts _ ((List.mem_filter.mp (nb1 93 rfl rfl)).1))
  obtain ⟨c17, a17, r17⟩ := ar_o (hts _ ((List.mem_filter.mp (nb1 85 rfl rfl)).1))
  obtain ⟨c18, a18, r18⟩ := ar_o (hts _ ((List.mem_filter.mp (nb1 83 rfl rfl)).1))
  obtain ⟨c19, a19, r19⟩ := ar_a (hts _ ((List.mem_filter.mp (nb3 29 rfl rfl)).1))
  refine ⟨fun k => match k with | 12 => c12 | 13 => c13 | 14 => c14 | 15 => c15 | 16 => c16 | 17 => c17 | 18 => c18 | _ => c19, fun k q hq => ?_⟩
  match k, hq with
  | 0, hq => cases hq; exact ⟨a12, r12⟩
  | 1, hq => cases hq; exact ⟨a13, r13⟩
  | 2, hq => cases hq; exact ⟨a14, r14⟩
  | 3, hq => cases hq; exact ⟨a15, r15⟩
  | 4, hq => cases hq; exact ⟨a16, r16⟩
  | 5, hq => cases hq; exact ⟨a17, r17⟩
  | 6, hq => cases hq; exact ⟨a18, r18⟩
  | 7, hq => cases hq; exact ⟨a19, r19⟩
  | k + 8, hq => simp [tysC] at hq
/-- a text of the constant pool -/
def strT (i : Nat) : Term := .string (sT.getD i ("", 0, "")).1 (sT.getD i ("", 0, "")).2.1
def strV (i : Nat) : Term := .field (strT i) "java/lang/String" "value" "[B"
def strW (i : Nat) : List Cond := [.exactly (strT i) "java/lang/String", .eq (.field (strT i) "java/lang/String" "coder" "B") (.int 0), .arrayOf (strV i) .byte, .eq (.length (strV i)) (.int (Int32.ofNat (sLen i)))] ++ (List.range (sLen i)).map (fun j => .eq (.elem (strV i) (.int (Int32.ofNat j))) (.int ((sByt i).getD j 0)))
def strR (i : Nat) : Cond := .stringRef (sT.getD i ("", 0, "")).1 (sT.getD i ("", 0, "")).2.1 (sT.getD i ("", 0, "")).2.2
def gv1 : Cond := Jvm.Cond.and given_1 narrow_1
def strO : List Nat := [37, 71, 80, 90, 97, 105, 112, 120, 128, 145, 161, 178, 185, 194, 199, 207, 212, 224, 243, 269, 280, 290, 298, 307, 315, 324, 333, 341, 351, 360]
theorem strW_at : ∀ i, i < 30 → ((flatC gv1).drop (strO.getD i 0)).take (strW i).length = strW i := by decide +kernel
theorem strW_in : ∀ i, i < 30 → ∀ w ∈ strW i, w ∈ flatC gv1 := fun i hi w hw => by
  rw [← strW_at i hi] at hw
  exact List.mem_of_mem_drop (List.mem_of_mem_take hw)
theorem strR_in : ∀ i, i < 30 → strR i ∈ tables_1 := by decide +kernel
theorem st_z {s : State} {args : Array Value} (hts : ∀ w ∈ lw_tbl, w.before args s = true) (hgv : gv1.before args s = true) : ∃ z : ZK, (∀ i, i < 30 → vk_S 1 [sLen i] [sByt i] (fun _ => z.1 i) (fun _ => z.2 i) (fun q : Nat => s.heap.size ≤ q) s s.heap) ∧ (∀ i, i < 30 → vk_R (sT.getD i ("", 0, "")).1 (sT.getD i ("", 0, "")).2.1 (sT.getD i ("", 0, "")).2.2 (z.1 i) s) := by
  have hs := flat_of_before _ hgv
  have h : ∀ i, ∃ r : Nat × Nat, i < 30 → vk_S 1 [sLen i] [sByt i] (fun _ => r.1) (fun _ => r.2) (fun q : Nat => s.heap.size ≤ q) s s.heap ∧ vk_R (sT.getD i ("", 0, "")).1 (sT.getD i ("", 0, "")).2.1 (sT.getD i ("", 0, "")).2.2 r.1 s := fun i => by
    by_cases hi : i < 30
    · have hw : ∀ w ∈ strW i, w.before args s = true := fun w h => hs w (strW_in i hi w h)
      have hl31 : sLen i < 2 ^ 31 := by
        have : ∀ i, i < 30 → sLen i < 2 ^ 31 := by decide +kernel
        exact this i hi
      obtain ⟨adK, adV, ⟨h1, -⟩, h2⟩ := vk_Sof (args := args) (s := s) (N := 1) (tm := fun _ => strT i) (len := [sLen i]) (byt := [sByt i]) (A := fun q : Nat => s.heap.size ≤ q)
        (fun k hk => by obtain rfl : k = 0 := by omega
                        exact hl31)
        (fun k hk => hw _ (by simp [strW]))
        (fun k hk => hw _ (by simp [strW]))
        (fun k hk => hw _ (by simp [strW, strV]))
        (fun k hk => by obtain rfl : k = 0 := by omega
                        exact hw _ (by simp [strW, strV]))
        (fun k hk j hj => by
          obtain rfl : k = 0 := by omega
          exact hw _ (List.mem_append_right _ (List.mem_map.mpr ⟨j, List.mem_range.mpr hj, rfl⟩)))
        (fun a b ha hb hab => absurd (show a = b by omega) hab)
        (fun a h9 => Nat.not_le.mpr h9)
      refine ⟨(adK 0, adV 0), fun _ => ⟨⟨fun k hk => ?_, fun a b ha hb _ => by omega⟩, ?_⟩⟩
      · obtain rfl : k = 0 := by omega
        exact h1 0 hk
      · exact vk_R.of (hts _ (List.mem_append_right _ (strR_in i hi))) (h2 0 (by decide))
    · exact ⟨(0, 0), fun h => absurd h hi⟩
  obtain ⟨f, hf⟩ := Classical.skolem.mp h
  exact ⟨(fun i => (f i).1, fun i => (f i).2), fun i hi => (hf i hi).1, fun i hi => (hf i hi).2⟩
theorem st_N {s : State} {args : Array Value} (hts : ∀ w ∈ lw_tbl, w.before args s = true) (hgv : gv1.before args s = true) : NW s := by
  have hs := flat_of_before _ hgv
  refine ⟨fun w hw => ?_, va_Nc.of (args := args) (hs _ (by decide +kernel))⟩
  obtain ⟨h1, h2⟩ := List.mem_filter.mp hw
  have h3 := hts w h1
  cases w with
  | arrayOver ty => exact h3
  | methodLinkNest => exact va_Nw.of rfl h3
  | declares => exact va_Nw.of rfl h3
  | castable => exact va_Nw.of rfl h3
  | _ => cases h2
theorem st_env {s : State} {args : Array Value} (hts : ∀ w ∈ lw_tbl, w.before args s = true) (hgv : gv1.before args s = true) : ∃ (D : va_G) (cy : Nat → ClassId) (z : ZK), va_K D vwCl (tysC cy) s ∧ KS z (fun q : Nat => s.heap.size ≤ q) s s.heap := by
  have hs := flat_of_before _ hgv
  obtain ⟨D, hD⟩ := st_D (fun w hw => hts w (bw_in hw))
  obtain ⟨cy, hcy⟩ := st_cy hts
  obtain ⟨z, z1, z2⟩ := st_z hts hgv
  have hA : ∀ a : Nat, a < s.heap.size → ¬ (fun q : Nat => s.heap.size ≤ q) a := fun a h => Nat.not_le.mpr h
  exact ⟨D, cy, z, ⟨hD, hcy⟩, z1, z2,
    vx_Zqof (hts (.laysStatic Bundle.tN "UNASSIGNED_STACK" Bundle.steD) (by decide +kernel)) (hts (.initialized Bundle.tN) (by decide +kernel)) (hs (.isRef (.static Bundle.tN "UNASSIGNED_STACK" Bundle.steD)) (by decide +kernel)) hA,
    vx_Zqof (hts (.laysStatic Bundle.tN "SUPPRESSED_SENTINEL" Bundle.listD) (by decide +kernel)) (hts (.initialized Bundle.tN) (by decide +kernel)) (hs (.isRef (.static Bundle.tN "SUPPRESSED_SENTINEL" Bundle.listD)) (by decide +kernel)) hA,
    va_Zof (hts (.laysStatic "java/lang/String" "COMPACT_STRINGS" "Z") (by decide +kernel)) (hts (.initialized "java/lang/String") (by decide +kernel)) (va_eqi (hs (.eq (.static "java/lang/String" "COMPACT_STRINGS" "Z") (.int 1)) (by decide +kernel))) hA,
    va_Zqof (hts (.laysStatic "jdk/internal/util/Preconditions" "SIOOBE_FORMATTER" "Ljava/util/function/BiFunction;") (by decide +kernel)) (hts (.initialized "jdk/internal/util/Preconditions") (by decide +kernel)) (hs (.isRef (.static "jdk/internal/util/Preconditions" "SIOOBE_FORMATTER" "Ljava/util/function/BiFunction;")) (by decide +kernel)) hA,
    st_N hts hgv⟩
