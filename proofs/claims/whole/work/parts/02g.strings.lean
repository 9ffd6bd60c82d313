/-! ===== texts ===== -/
section ST
variable {p : Program} {l : Launch} {e : Env} {R : Room} {s : State} {m : MethodId} {args : Array Value} {below : List Frame} {meth : Method} {c : Code} {H : Heap} {locs : List Loc} {cells slots : Nat} {Q : State → Prop}
variable {cc : ByteArray} {pc : Nat} {ls : Array Slot} {rest : List Value} {D : va_G} {cy : Nat → ClassId} {G : GW} {A : Nat → Prop} {iv : IV} {jv : JV} {own : String} {lb ci k idx : Nat} {z : ZK}
theorem rs_recv {i : Nat} (hE : EN p c s m args cc own D cy z A) (hH : HS D cy G A s.heap iv jv H locs) (hi : i < 30) : ∃ cell : Cell, H[z.1 i]? = some cell ∧ cell.vm.isStatics = false ∧ s.vm.findClass "java/lang/String" = some cell.cls :=
  vk_recv (i := 0) (hE.2.2.2.2.2.1 i hi) (by decide) hH.2.2.2.1
theorem rs_ldc {i : Nat} (hE : EN p c s m args cc own D cy z A) (hi : i < 30) (ho : (sT.getD i ("", 0, "")).1 = own) (hx : (sT.getD i ("", 0, "")).2.1 = idx) (hd : decode cc pc = .ok (.ldc idx, 2))
    (kk : W p l e R s m args below meth c H locs cells slots Q (F0 m (pc + 2) ls (.ref (z.1 i) :: rest))) : W p l e R s m args below meth c H locs cells slots Q (F0 m pc ls rest) := by
  subst ho; subst hx
  exact va_ldcS hE.1 hE.2.1 hE.2.2.1 (hE.2.2.2.2.2.2.1 i hi) hd kk
theorem rs_val {i : Nat} (hE : EN p c s m args cc "java/lang/String" D cy z A) (hH : HS D cy G A s.heap iv jv H locs) (hi : i < 30) (hd : decode cc pc = .ok (.getfield 9, 3))
    (kk : W p l e R s m args below meth c H locs cells slots Q (F0 m (pc + 3) ls (.ref (z.2 i) :: rest))) : W p l e R s m args below meth c H locs cells slots Q (F0 m pc ls (.ref (z.1 i) :: rest)) :=
  vk_getf hE.1 hE.2.1 ((hE.2.2.2.2.2.1 i hi).1 0 (by decide)).2.2.1 hH.2.2.2.1 hE.2.2.1 (hE.2.2.2.1 _ (b6 198 rfl rfl)) (fun _ h => h) hd kk
theorem rs_cod {i : Nat} (hE : EN p c s m args cc "java/lang/String" D cy z A) (hH : HS D cy G A s.heap iv jv H locs) (hi : i < 30) (hd : decode cc pc = .ok (.getfield 15, 3))
    (kk : W p l e R s m args below meth c H locs cells slots Q (F0 m (pc + 3) ls (.int 0 :: rest))) : W p l e R s m args below meth c H locs cells slots Q (F0 m pc ls (.ref (z.1 i) :: rest)) :=
  vk_getf hE.1 hE.2.1 ((hE.2.2.2.2.2.1 i hi).1 0 (by decide)).2.1 hH.2.2.2.1 hE.2.2.1 (hE.2.2.2.1 _ (b6 199 rfl rfl)) (fun _ h => h) hd kk
theorem rs_cmp (hE : EN p c s m args cc "java/lang/String" D cy z A) (hH : HS D cy G A s.heap iv jv H locs) (hd : decode cc pc = .ok (.getstatic 38, 3))
    (kk : W p l e R s m args below meth c H locs cells slots Q (F0 m (pc + 3) ls (.int 1 :: rest))) : W p l e R s m args below meth c H locs cells slots Q (F0 m pc ls rest) :=
  va_gets hE.1 hE.2.1 hE.2.2.2.2.2.2.2.2.2.1 hH.2.2.2.1 hE.2.2.1 (hE.2.2.2.1 _ (b2 126 rfl rfl)) (fun _ h => h) hd kk
theorem rs_fmt (hE : EN p c s m args cc "java/lang/String" D cy z A) (hH : HS D cy G A s.heap iv jv H locs) (hd : decode cc pc = .ok (.getstatic 1053, 3))
    (kk : ∀ o : Option Nat, W p l e R s m args below meth c H locs cells slots Q (F0 m (pc + 3) ls (va_rf o :: rest))) : W p l e R s m args below meth c H locs cells slots Q (F0 m pc ls rest) := by
  rcases hE.2.2.2.2.2.2.2.2.2.2.1 with h | ⟨t, h⟩
  · exact va_gets hE.1 hE.2.1 h hH.2.2.2.1 hE.2.2.1 (hE.2.2.2.1 _ (b2 142 rfl rfl)) (fun _ h => h) hd (kk none)
  · exact va_gets hE.1 hE.2.1 h hH.2.2.2.1 hE.2.2.1 (hE.2.2.2.1 _ (b2 142 rfl rfl)) (fun _ h => h) hd (kk (some t))
theorem sLen_lt (i : Nat) : sLen i < 2147483648 := by
  by_cases h : i < 30
  · have : ∀ j, j < 30 → sLen j < 2147483648 := by decide +kernel
    exact this i h
  · have : sT.getD i ("", 0, "") = ("", 0, "") := by
      rw [List.getD_eq_getElem?_getD, List.getElem?_eq_none]
      · rfl
      · exact Nat.le_trans (by decide) (Nat.not_lt.mp h)
    rw [sLen, sByt, this]; decide
theorem rs_len {i : Nat} (hE : EN p c s m args cc own D cy z A) (hH : HS D cy G A s.heap iv jv H locs) (hi : i < 30) (hd : decode cc pc = .ok (.arraylength, 1))
    (kk : W p l e R s m args below meth c H locs cells slots Q (F0 m (pc + 1) ls (.int (nI (sLen i)) :: rest))) : W p l e R s m args below meth c H locs cells slots Q (F0 m pc ls (.ref (z.2 i) :: rest)) :=
  va_tlen hE.1 hE.2.1 ((hE.2.2.2.2.2.1 i hi).1 0 (by decide)).2.2.2 hH.2.2.2.1 rfl hd kk
theorem rs_byt {i j : Nat} (hE : EN p c s m args cc own D cy z A) (hH : HS D cy G A s.heap iv jv H locs) (hi : i < 30) (hj : j < sLen i) (hd : decode cc pc = .ok (.baload, 1))
    (kk : W p l e R s m args below meth c H locs cells slots Q (F0 m (pc + 1) ls (.int ((sByt i).getD j 0) :: rest))) : W p l e R s m args below meth c H locs cells slots Q (F0 m pc ls (.int (nI j) :: .ref (z.2 i) :: rest)) :=
  va_tb hE.1 hE.2.1 ((hE.2.2.2.2.2.1 i hi).1 0 (by decide)).2.2.2 hH.2.2.2.1 (vp_in_nI hj (sLen_lt i)) (v := .int ((sByt i).getD j 0)) (by have := sLen_lt i; rw [clamp_nI (by omega)]; rfl) hd kk
end ST
theorem mx_J0_335 : MX RJ0 335 RJ0 yJ0_coder_7d493 cJ0_coder_7d493 1 (some .byte) 0 := ⟨b2 122 rfl rfl, b2 123 rfl rfl, b2 124 rfl rfl, b1 15 rfl rfl, b2 125 rfl rfl, rfl, by decide, by decide, by decide +kernel⟩
theorem mx_J0_492 : MX RJ0 492 RJ0 yJ0_isLatin1_aae02 cJ0_isLatin1_aae02 1 (some .boolean) 0 := ⟨b2 132 rfl rfl, b2 133 rfl rfl, b2 134 rfl rfl, b1 15 rfl rfl, b2 135 rfl rfl, rfl, by decide, by decide, by decide +kernel⟩
theorem ms_J0_495 : MS RJ0 495 yJ1_charAt_3b067 cJ1_charAt_3b067 2 (some .char) 2 := ⟨b2 136 rfl rfl, b2 137 rfl rfl, b1 16 rfl rfl, b2 138 rfl rfl, by decide, by decide, by decide +kernel⟩
theorem ms_J1_9 : MS RJ1 9 yJ0_checkIndex_df160 cJ0_checkIndex_df160 2 none 2 := ⟨b2 139 rfl rfl, b2 140 rfl rfl, b1 15 rfl rfl, b2 141 rfl rfl, by decide, by decide, by decide +kernel⟩
