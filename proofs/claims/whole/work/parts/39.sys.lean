section DRAW
/-- a method that may draw and answers a double -/
def MD (l : Launch) (y : MethodName) (ws : List Cond) (rm : Room) (D : va_G) (tys : List (ClassId × FieldType)) (av : List Value) (w : va_W) (post : UInt64 → Prop) (w' : va_W) : Prop :=
  ∀ sz : Nat, MetD lw_cs l y ws rm (va_Pc av (cS D tys sz w)) (va_Qd (fun r (_ : Unit) => post r) (fun _ t => cE D (va_A w sz) w' t) (va_A w sz)) rm.cells rm.slots (va_A w sz)
theorem MD.of {l : Launch} {y : MethodName} {ws ws' : List Cond} {rm : Room} {D : va_G} {tys : List (ClassId × FieldType)} {av : List Value} {w w' : va_W} {cc : ByteArray} {maxL : Nat} {post : UInt64 → Prop} (hy : plainName y.cls = true) (hw : ws = Cond.code y cc maxL (some .double) :: ws') (hn : (lg_sl av).length ≤ maxL)
    (body : ∀ (p : Program) (e : Env) (s : State) (m : MethodId) (args : Array Value) (below : List Frame) (meth : Method) (c : Code) (A : Nat → Prop) (Q : State → Prop) (ls : Array Slot) (H : Heap) (locs : List Loc),
      Bg p s m args meth c cc y.cls ws D tys maxL A → s.drawn.sameBut s.drawn lw_cs → va_S A s.heap H locs → va_P D vwCl w H → va_D A w → lv_has ls maxL (lv_args 0 av) →
      (∀ (v : UInt64) (d1 : Drawn) (H : Heap) (locs : List Loc) (cells slots pc : Nat) (ls : Array Slot) (wf : va_W), s.drawn.sameBut d1 lw_cs → post v → wf = w' → va_P D vwCl wf H → va_D A wf → va_S A s.heap H locs → cells ≤ rm.cells → slots ≤ rm.slots → decode cc pc = .ok (.dreturn, 1) →
        W p l e rm (s.setDrawn d1) m args below meth c H locs cells slots Q (F0 m pc ls [.double v])) →
      W p l e rm (s.setDrawn s.drawn) m args below meth c H locs 0 0 Q (F0 m 0 ls [])) : MD l y ws rm D tys av w post w' := by
  intro sz
  refine MetD.ofW (cc := cc) (maxL := maxL) (ret := some .double) hy hw ?_
  intro p e s m args below meth c s₁ B hml hv hd0
  obtain ⟨rfl, hsz, hP, hK, hD0, hN⟩ := hv
  subst hsz
  refine entry_ls hn (P := fun g => W p l e rm (s.setDrawn s.drawn) m av.toArray below meth c s.heap [] 0 0 _ g) (fun ls hl => ?_)
  refine body p e s m _ below meth c (va_A w s.heap.size) _ ls s.heap [] ⟨B.exec, B.bytes, hml, findClass_of_methodNamed B.named, atoms_spec (ws := ws) B.pre, hK, hN, fun q h => Or.inr h, B.notSynchronized⟩ hd0 va_S.rf hP hD0.self hl ?_
  intro v d1 H locs cells slots pc ls wf hd1 hpost hwf hP hD hS hc hs hdg
  subst hwf
  refine W.widen hc hs ?_
  refine W.endD hd1 ?_
  exact W.dret (v := v) B.exec B.bytes B.returns (fun t ht hW => ⟨⟨v, (), rfl, hpost, by rw [ht]; exact hP, hD⟩, hS.F ht⟩) hS.2.2 hdg B.notSynchronized
theorem av_le {x : Int32} {t : Nat} (hx : x = nI t) (ht : t < 2147483648) (h : x ≤ 0) : x = 0 := by
  subst hx
  have := (nI_leI (a := t) (b := 0) ht (by decide)).mp h
  have e : t = 0 := by omega
  subst e; rfl
theorem av_gt {x : Int32} (h : ¬ x ≤ 0) : ¬ x = 0 := fun q => h (by rw [q]; exact Int32.le_refl 0)
end DRAW
