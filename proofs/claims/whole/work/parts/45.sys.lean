section LAWINV
def giC (g0 a0 b0 s0 : Nat) : Nat × va_E := (g0, .inr (6, [.ref a0, .ref b0, .ref s0]))
def scC (cO : ClassId) (s0 : Nat) (sc : Nat → Option Nat) : Nat × va_E := (s0, .inl (cO, 2, .inr (.inr (.inr (.inr sc)))))
def ocC (cJ : ClassId) (o : Nat) (ov : Nat → Int64) : Nat × va_E := (o, .inl (cJ, 1, .inr (.inl ov)))
/-- the reference's cells -/
def mdW (cI cJ cZ : ClassId) (m : Nat → Nat) (E : Int64) (tw : Int32) (f as sl : Nat → Int32) (se : Nat → Int64) (sv : Nat → Int32) : va_W :=
  [(m 0, .inr (7, [.ref (m 1), .long E, .ref (m 2), .ref (m 3), .ref (m 4), .ref (m 5), .int tw])), (m 1, .inl (cI, 165, .inl f)), (m 2, .inl (cI, 165, .inl as)), (m 3, .inl (cI, 330, .inl sl)), (m 4, .inl (cJ, 2, .inr (.inl se))), (m 5, .inl (cZ, 2, .inl sv))]
/-- the slot j, of both -/
def SL (cI : ClassId) (B j : Nat) (sc : Nat → Option Nat) (sl : Nat → Int32) (se : Nat → Int64) (sv : Nat → Int32) (S : va_W) : Prop :=
  (sc j = none ∧ sv j = 0 ∧ S = []) ∨ ∃ (a : Nat → Nat) (f c : Nat → Int32) (E : Int64), sc j = some (a 0) ∧ sv j = 1 ∧ S = simW cI a f c E ∧ Gd f B ∧ AgN c f ∧ (∀ k, k < 165 → sl (165 * j + k) = f k) ∧ se j = E
theorem SL.up {cI : ClassId} {B B' j : Nat} {sc : Nat → Option Nat} {sl : Nat → Int32} {se : Nat → Int64} {sv : Nat → Int32} {S : va_W} (h : SL cI B j sc sl se sv S) (hB : B ≤ B') : SL cI B' j sc sl se sv S := by
  rcases h with h | ⟨a, f, c, E, h1, h2, h3, h4, h5⟩
  · exact Or.inl h
  · exact Or.inr ⟨a, f, c, E, h1, h2, h3, h4.up hB, h5⟩
/-- what holds between two calls: the same numbers in the class and in the reference -/
def LI (cI cJ cZ cO : ClassId) (g0 m0 o B : Nat) (W : va_W) : Prop :=
  ∃ (a b : Nat → Nat) (f c : Nat → Int32) (E : Int64) (fb cb : Nat → Int32) (eb : Int64) (s0 : Nat) (sc : Nat → Option Nat) (S0 S1 : va_W) (m : Nat → Nat) (tw : Int32) (as sl : Nat → Int32) (se : Nat → Int64) (sv : Nat → Int32) (ov : Nat → Int64),
    m 0 = m0 ∧ W = LB (giC g0 (a 0) (b 0) s0) (scC cO s0 sc) (ocC cJ o ov) (simW cI a f c E) (simW cI b fb cb eb) (S0 ++ S1) (mdW cI cJ cZ m E tw f as sl se sv) ∧ Gd f B ∧ AgN c f ∧ SL cI B 0 sc sl se sv S0 ∧ SL cI B 1 sc sl se sv S1
/-- what the law's walk has at hand -/
def LC (p : Program) (s : State) (m : MethodId) (args : Array Value) (c : Code) (D : va_G) (cI cJ cZ cO : ClassId) (b L : Nat) (xs : Nat → Int32) : Prop :=
  p.tables.exec = Jvm.exec ∧ c.code = cL_law ∧ c.maxLocals = 9 ∧ s.vm.findClass RL = some m.cls ∧ (∀ w ∈ wsL_law, w.before args s = true) ∧ va_K D vwCl (tysK cI cJ cZ cO) s ∧ NW s ∧ XS s ∧ ZS (fun q => s.heap.size ≤ q) s s.heap ∧ va_X b L xs s s.heap ∧ b < s.heap.size
abbrev lvL (b g0 m0 o i : Nat) : List (Nat × Value) := [(0, .ref b), (1, .ref g0), (2, .ref m0), (3, .ref o), (4, .int (nI i))]
/-- the end of a call, where the next one begins -/
def KN (p : Program) (l : Launch) (e : Env) (R : Room) (s : State) (m : MethodId) (args : Array Value) (below : List Frame) (meth : Method) (c : Code) (D : va_G) (cI cJ cZ cO : ClassId) (Q : State → Prop) (b g0 m0 o i B cells slots : Nat) : Prop :=
  ∀ (W1 : va_W) (H : Heap) (locs : List Loc) (d0 : Drawn) (ls : Array Slot), LI cI cJ cZ cO g0 m0 o (B + 2001) W1 → va_P D vwCl W1 H → va_D (fun q => s.heap.size ≤ q) W1 → va_S (fun q => s.heap.size ≤ q) s.heap H locs → s.drawn.sameBut d0 lw_cs → lv_has ls 9 (lvL b g0 m0 o i) →
    W p l e R (s.setDrawn d0) m args below meth c H locs (cells + 20) (slots + 400) Q (F0 m 1414 ls [])
end LAWINV
