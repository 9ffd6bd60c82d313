theorem lc_self {x : Int64} : lc x x = 0 := lc_0.mpr rfl
theorem spIdle_01 {a : AS} {x y : Int32} : (spIdle a x y).2.1 = 0 ∨ (spIdle a x y).2.1 = 1 := by
  unfold spIdle onK
  split
  · dsimp only
    split
    · show bI _ = 0 ∨ bI _ = 1
      cases idl _ _
      · exact Or.inl rfl
      · exact Or.inr rfl
    · exact Or.inl rfl
  · exact Or.inl rfl
/-! ===== the law's own words ===== -/
/-- what holds all along the law -/
def lwE (p : Program) (l : Launch) (s : State) (m : MethodId) (meth : Method) (c : Code) (D : va_G) (cy : Nat → ClassId) (z : ZK) (b L : Nat) (xs : Nat → Int32) : Prop :=
  EN p c s m #[Value.ref b] code RL D cy z (fun q : Nat => s.heap.size ≤ q) ∧ c.maxLocals = 7 ∧ va_X b L xs s s.heap ∧ b < s.heap.size ∧ l.stackTraces = false ∧ L ≤ 3072 ∧ meth.sig.returnType = ret ∧ meth.locks = false
/-- both sides hold one state -/
def lwS (G : GW) (iv : IV) (jv : JV) (a : AS) : Prop := isM G ∧ MSt iv a ∧ CSt G iv jv a ∧ isA G 50 14 1
/-- the room used so far -/
def lwB (i : Nat) (a : AS) (cells slots : Nat) : Prop := cells ≤ 200 + 4 * i + 60 * (aT a).length + 10 * (aP a).length ∧ slots ≤ 60000 + 24 * i + 83000 * (aT a).length + 700 * (aP a).length
abbrev lvL (G : GW) (b i : Nat) : List (Nat × Value) := [(0, .ref b), (1, .ref (G.ad 100)), (2, .ref (G.ad 0)), (3, .ref (G.ad 50)), (4, .int (nI i))]
