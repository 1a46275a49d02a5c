section BASE
/-- the links between nest mates, all of them -/
def NW (U : State) : Prop :=
  va_Nw (.methodLinkNest RX6 9 yX5_init RX6) U ∧ va_Nw (.methodLinkNest RX5 17 yX1_init RX6) U ∧ va_Nw (.methodLinkNest RX5 31 yX0_init RX6) U ∧ va_Nw (.methodLinkNest RX5 38 yX4_init RX6) U ∧ va_Nw (.methodLinkNest RX5 45 yX2_init RX6) U ∧
  va_Nw (.methodLinkNest RX4 28 yX6_outside RX6) U ∧ va_Nw (.methodLinkNest RX1 58 yX6_limitedFrequency RX6) U ∧ va_Nw (.methodLinkNest RX3 49 yX6_limitedFrequency RX6) U ∧ va_Nw (.methodLinkNest RX3 53 yX6_outside RX6) U ∧ va_Nw (.methodLinkNest RX0 58 yX6_outside RX6) U ∧
  va_Nw (.methodLinkNest RX3 57 yX6_copyRow RX6) U ∧ va_Nw (.methodLinkNest RX4 36 yX6_copyRow RX6) U ∧ va_Nw (.methodLinkNest RX2 32 yX6_copyRow RX6) U ∧ va_AO RX5 U
theorem NW.warm {s U : State} (hW : s.WarmedH U.vm) (h : NW s) : NW U := by
  obtain ⟨h1, h2, h3, h4, h5, h6, h7, h8, h9, h10, h11, h12, h13, h14⟩ := h
  exact ⟨va_Nw.warmM hW h1, va_Nw.warmM hW h2, va_Nw.warmM hW h3, va_Nw.warmM hW h4, va_Nw.warmM hW h5, va_Nw.warmM hW h6, va_Nw.warmM hW h7, va_Nw.warmM hW h8, va_Nw.warmM hW h9, va_Nw.warmM hW h10, va_Nw.warmM hW h11, va_Nw.warmM hW h12, va_Nw.warmM hW h13, va_AO.moved hW.alike h14⟩
theorem NW.same {u U : State} (h : u.vm = U.vm) (hZ : NW u) : NW U := by
  obtain ⟨h1, h2, h3, h4, h5, h6, h7, h8, h9, h10, h11, h12, h13, h14⟩ := hZ
  exact ⟨va_Nw.same rfl h h1, va_Nw.same rfl h h2, va_Nw.same rfl h h3, va_Nw.same rfl h h4, va_Nw.same rfl h h5, va_Nw.same rfl h h6, va_Nw.same rfl h h7, va_Nw.same rfl h h8, va_Nw.same rfl h h9, va_Nw.same rfl h h10, va_Nw.same rfl h h11, va_Nw.same rfl h h12, va_Nw.same rfl h h13, va_AO.moved (show u.vm.Alike U.vm from h ▸ Vm.Alike.refl u.vm) h14⟩
/-- the array classes: int, long, boolean, Simulation -/
abbrev tysK (cI cJ cZ cO : ClassId) : List (ClassId × FieldType) := [(cI, .int), (cJ, .long), (cZ, .boolean), (cO, .object RX5)]
/-- a method's start and end, over the world w of which nothing else is known -/
def cS (D : va_G) (tys : List (ClassId × FieldType)) (sz : Nat) (w : va_W) (U : State) : Prop :=
  U.heap.size = sz ∧ va_P D vwCl w U.heap ∧ va_K D vwCl tys U ∧ va_D (fun _ => True) w ∧ NW U
def cE (D : va_G) (A : Nat → Prop) (w' : va_W) (t : State) : Prop := va_P D vwCl w' t.heap ∧ va_D A w'
theorem cS_blind {D : va_G} {tys : List (ClassId × FieldType)} {sz : Nat} {w : va_W} {av : List Value} : FrameBlind (va_Pc av (cS D tys sz w)) := fun a U g mk q => by
  obtain ⟨q0, q1, qP, qK, qD, qN⟩ := q
  exact ⟨q0, q1, qP, va_K.moved (u := U) (U := U.calling g mk a) (Vm.Alike.refl U.vm) qK, qD, NW.same rfl qN⟩
def MI (l : Launch) (y : MethodName) (ws : List Cond) (rm : Room) (D : va_G) (tys : List (ClassId × FieldType)) (av : List Value) (w : va_W) (r : Int32) (w' : va_W) : Prop :=
  ∀ sz : Nat, Met l y ws rm (va_Pc av (cS D tys sz w)) (va_Qi (fun x (_ : Unit) => x = r) (fun _ t => cE D (va_A w sz) w' t) (va_A w sz)) rm.cells rm.slots (va_A w sz)
def ML (l : Launch) (y : MethodName) (ws : List Cond) (rm : Room) (D : va_G) (tys : List (ClassId × FieldType)) (av : List Value) (w : va_W) (r : Int64) (w' : va_W) : Prop :=
  ∀ sz : Nat, Met l y ws rm (va_Pc av (cS D tys sz w)) (va_Ql (fun x (_ : Unit) => x = r) (fun _ t => cE D (va_A w sz) w' t) (va_A w sz)) rm.cells rm.slots (va_A w sz)
/-- S: what is chosen (the new cells' addresses) -/
def MV {S : Type} (l : Launch) (y : MethodName) (ws : List Cond) (rm : Room) (D : va_G) (tys : List (ClassId × FieldType)) (av : List Value) (w : va_W) (w' : S → va_W) : Prop :=
  ∀ sz : Nat, Met l y ws rm (va_Pc av (cS D tys sz w)) (va_Qv (fun (_ : S) => True) (fun u t => cE D (va_A w sz) (w' u) t) (va_A w sz)) rm.cells rm.slots (va_A w sz)
/-- what a walk begins with -/
def Bg (p : Program) (s : State) (m : MethodId) (args : Array Value) (meth : Method) (c : Code) (cc : ByteArray) (own : String) (ws : List Cond) (D : va_G) (tys : List (ClassId × FieldType)) (maxL : Nat) (A : Nat → Prop) : Prop :=
  p.tables.exec = Jvm.exec ∧ c.code = cc ∧ c.maxLocals = maxL ∧ s.vm.findClass own = some m.cls ∧ (∀ w ∈ ws, w.before args s = true) ∧ va_K D vwCl tys s ∧ NW s ∧ (∀ q : Nat, s.heap.size ≤ q → A q) ∧ meth.locks = false
section
variable {l : Launch} {y : MethodName} {ws ws' : List Cond} {rm : Room} {D : va_G} {tys : List (ClassId × FieldType)} {av : List Value} {w w' : va_W} {cc : ByteArray} {maxL : Nat}
theorem entry_ls (hn : (lg_sl av).length ≤ maxL) {m : MethodId} {P : JFrame → Prop} (k : ∀ ls : Array Slot, lv_has ls maxL (lv_args 0 av) → P (F0 m 0 ls [])) : P (entryFrame m av.toArray maxL) := by
  rw [lg_entry_eq]
  exact k _ (lv_entry av hn)
theorem MI.of {r : Int32} {ret : FieldType} (hy : plainName y.cls = true) (hw : ws = Cond.code y cc maxL (some ret) :: ws') (hn : (lg_sl av).length ≤ maxL) (hnar : narrow ret (.int r) = .int r)
    (body : ∀ (p : Program) (e : Env) (s : State) (m : MethodId) (args : Array Value) (below : List Frame) (meth : Method) (c : Code) (A : Nat → Prop) (Q : State → Prop) (ls : Array Slot) (H : Heap) (locs : List Loc),
      Bg p s m args meth c cc y.cls ws D tys maxL A → va_S A s.heap H locs → va_P D vwCl w H → va_D A w → lv_has ls maxL (lv_args 0 av) →
      (∀ (v : Int32) (H : Heap) (locs : List Loc) (cells slots pc : Nat) (ls : Array Slot) (wf : va_W), v = r → wf = w' → va_P D vwCl wf H → va_D A wf → va_S A s.heap H locs → cells ≤ rm.cells → slots ≤ rm.slots → decode cc pc = .ok (.ireturn, 1) →
        W p l e rm s m args below meth c H locs cells slots Q (F0 m pc ls [.int v])) →
      W p l e rm s m args below meth c H locs 0 0 Q (F0 m 0 ls [])) : MI l y ws rm D tys av w r w' := by
  intro sz
  refine Met.ofW (cc := cc) (maxL := maxL) (ret := some ret) hy hw ?_
  intro p e s m args below meth c s₁ B hml hv
  obtain ⟨rfl, hsz, hP, hK, hD0, hN⟩ := hv
  subst hsz
  refine entry_ls hn (P := fun g => W p l e rm s m av.toArray below meth c s.heap [] 0 0 _ g) (fun ls hl => ?_)
  refine body p e s m _ below meth c (va_A w s.heap.size) _ ls s.heap [] ⟨B.exec, B.bytes, hml, findClass_of_methodNamed B.named, atoms_spec (ws := ws) B.pre, hK, hN, fun q h => Or.inr h, B.notSynchronized⟩ va_S.rf hP hD0.self hl ?_
  intro v H locs cells slots pc ls wf hv hwf hP hD hS hc hs hdg
  subst hv; subst hwf
  refine W.widen hc hs ?_
  exact W.zret (ty := ret) (v := v) B.exec B.bytes B.returns hnar (fun t ht hW => ⟨⟨v, (), rfl, rfl, by rw [ht]; exact hP, hD⟩, hS.F ht⟩) hS.2.2 hdg B.notSynchronized
theorem MI.ofF {r : Int32} {ret : FieldType} (hy : plainFor y = true) (hw : ws = Cond.code y cc maxL (some ret) :: ws') (hn : (lg_sl av).length ≤ maxL) (hnar : narrow ret (.int r) = .int r)
    (body : ∀ (p : Program) (e : Env) (s : State) (m : MethodId) (args : Array Value) (below : List Frame) (meth : Method) (c : Code) (A : Nat → Prop) (Q : State → Prop) (ls : Array Slot) (H : Heap) (locs : List Loc),
      Bg p s m args meth c cc y.cls ws D tys maxL A → va_S A s.heap H locs → va_P D vwCl w H → va_D A w → lv_has ls maxL (lv_args 0 av) →
      (∀ (v : Int32) (H : Heap) (locs : List Loc) (cells slots pc : Nat) (ls : Array Slot) (wf : va_W), v = r → wf = w' → va_P D vwCl wf H → va_D A wf → va_S A s.heap H locs → cells ≤ rm.cells → slots ≤ rm.slots → decode cc pc = .ok (.ireturn, 1) →
        W p l e rm s m args below meth c H locs cells slots Q (F0 m pc ls [.int v])) →
      W p l e rm s m args below meth c H locs 0 0 Q (F0 m 0 ls [])) : MI l y ws rm D tys av w r w' := by
  intro sz
  refine va_MetF (cc := cc) (maxL := maxL) (ret := some ret) hy hw ?_
  intro p e s m args below meth c s₁ B hml hv
  obtain ⟨rfl, hsz, hP, hK, hD0, hN⟩ := hv
  subst hsz
  refine entry_ls hn (P := fun g => W p l e rm s m av.toArray below meth c s.heap [] 0 0 _ g) (fun ls hl => ?_)
  refine body p e s m _ below meth c (va_A w s.heap.size) _ ls s.heap [] ⟨B.exec, B.bytes, hml, findClass_of_methodNamed B.named, atoms_spec (ws := ws) B.pre, hK, hN, fun q h => Or.inr h, B.notSynchronized⟩ va_S.rf hP hD0.self hl ?_
  intro v H locs cells slots pc ls wf hv hwf hP hD hS hc hs hdg
  subst hv; subst hwf
  refine W.widen hc hs ?_
  exact W.zret (ty := ret) (v := v) B.exec B.bytes B.returns hnar (fun t ht hW => ⟨⟨v, (), rfl, rfl, by rw [ht]; exact hP, hD⟩, hS.F ht⟩) hS.2.2 hdg B.notSynchronized
theorem ML.of {r : Int64} (hy : plainName y.cls = true) (hw : ws = Cond.code y cc maxL (some .long) :: ws') (hn : (lg_sl av).length ≤ maxL)
    (body : ∀ (p : Program) (e : Env) (s : State) (m : MethodId) (args : Array Value) (below : List Frame) (meth : Method) (c : Code) (A : Nat → Prop) (Q : State → Prop) (ls : Array Slot) (H : Heap) (locs : List Loc),
      Bg p s m args meth c cc y.cls ws D tys maxL A → va_S A s.heap H locs → va_P D vwCl w H → va_D A w → lv_has ls maxL (lv_args 0 av) →
      (∀ (v : Int64) (H : Heap) (locs : List Loc) (cells slots pc : Nat) (ls : Array Slot) (wf : va_W), v = r → wf = w' → va_P D vwCl wf H → va_D A wf → va_S A s.heap H locs → cells ≤ rm.cells → slots ≤ rm.slots → decode cc pc = .ok (.lreturn, 1) →
        W p l e rm s m args below meth c H locs cells slots Q (F0 m pc ls [.long v])) →
      W p l e rm s m args below meth c H locs 0 0 Q (F0 m 0 ls [])) : ML l y ws rm D tys av w r w' := by
  intro sz
  refine Met.ofW (cc := cc) (maxL := maxL) (ret := some .long) hy hw ?_
  intro p e s m args below meth c s₁ B hml hv
  obtain ⟨rfl, hsz, hP, hK, hD0, hN⟩ := hv
  subst hsz
  refine entry_ls hn (P := fun g => W p l e rm s m av.toArray below meth c s.heap [] 0 0 _ g) (fun ls hl => ?_)
  refine body p e s m _ below meth c (va_A w s.heap.size) _ ls s.heap [] ⟨B.exec, B.bytes, hml, findClass_of_methodNamed B.named, atoms_spec (ws := ws) B.pre, hK, hN, fun q h => Or.inr h, B.notSynchronized⟩ va_S.rf hP hD0.self hl ?_
  intro v H locs cells slots pc ls wf hv hwf hP hD hS hc hs hdg
  subst hv; subst hwf
  refine W.widen hc hs ?_
  exact W.lret (v := v) B.exec B.bytes B.returns (fun t ht hW => ⟨⟨v, (), rfl, rfl, by rw [ht]; exact hP, hD⟩, hS.F ht⟩) hS.2.2 hdg B.notSynchronized
theorem MV.of {S : Type} {w' : S → va_W} (hy : plainName y.cls = true) (hw : ws = Cond.code y cc maxL none :: ws') (hn : (lg_sl av).length ≤ maxL)
    (body : ∀ (p : Program) (e : Env) (s : State) (m : MethodId) (args : Array Value) (below : List Frame) (meth : Method) (c : Code) (A : Nat → Prop) (Q : State → Prop) (ls : Array Slot) (H : Heap) (locs : List Loc),
      Bg p s m args meth c cc y.cls ws D tys maxL A → meth.name = y.name → va_S A s.heap H locs → va_P D vwCl w H → va_D A w → lv_has ls maxL (lv_args 0 av) →
      (∀ (u : S) (H : Heap) (locs : List Loc) (cells slots pc : Nat) (ls : Array Slot) (wf : va_W), wf = w' u → va_P D vwCl wf H → va_D A wf → va_S A s.heap H locs → cells ≤ rm.cells → slots ≤ rm.slots → decode cc pc = .ok (.return_, 1) →
        W p l e rm s m args below meth c H locs cells slots Q (F0 m pc ls [])) →
      W p l e rm s m args below meth c H locs 0 0 Q (F0 m 0 ls [])) : MV l y ws rm D tys av w w' := by
  intro sz
  refine Met.ofW (cc := cc) (maxL := maxL) (ret := none) hy hw ?_
  intro p e s m args below meth c s₁ B hml hv
  obtain ⟨rfl, hsz, hP, hK, hD0, hN⟩ := hv
  subst hsz
  refine entry_ls hn (P := fun g => W p l e rm s m av.toArray below meth c s.heap [] 0 0 _ g) (fun ls hl => ?_)
  refine body p e s m _ below meth c (va_A w s.heap.size) _ ls s.heap [] ⟨B.exec, B.bytes, hml, findClass_of_methodNamed B.named, atoms_spec (ws := ws) B.pre, hK, hN, fun q h => Or.inr h, B.notSynchronized⟩ (name_of_methodNamed B.named B.method).1 va_S.rf hP hD0.self hl ?_
  intro u H locs cells slots pc ls wf hwf hP hD hS hc hs hdg
  subst hwf
  refine W.widen hc hs ?_
  exact W.vret B.exec B.bytes B.returns (fun t ht hW => ⟨⟨u, rfl, trivial, by rw [ht]; exact hP, hD⟩, hS.F ht⟩) hS.2.2 hdg B.notSynchronized
end
section
variable {p : Program} {l : Launch} {e : Env} {R : Room} {s : State} {m : MethodId} {args : Array Value} {below : List Frame} {meth : Method} {c : Code} {H : Heap} {locs : List Loc} {cells slots : Nat} {Q : State → Prop}
variable {y : MethodName} {bytes cc : ByteArray} {maxL nL n index pc : Nat} {ret : Option FieldType} {wsy : List Cond} {rmy : Room} {Qc : Array Value → State → Outcome → State → Prop} {free : Addr → Prop} {Ts : List Cond} {own C : String} {b : Addr} {As rest st : List Value} {ls : Array Slot}
variable {D : va_G} {tys : List (ClassId × FieldType)} {A : Nat → Prop} {wsW wc wr w1 : va_W} {H0 : Heap}
theorem run_V (S : CallFix p m c cc nL s args Ts own) (hM : Met l y wsy rmy (va_Pc (.ref b :: As) (cS D tys H.size wc)) Qc rmy.cells rmy.slots free) (cw : CallW R s args own C index y bytes maxL ret wsy rmy rmy.cells rmy.slots n)
    (hK : va_K D vwCl tys s) (hN : NW s) (hP : va_P D vwCl wsW H) (hD : va_D A wsW) (isC : List Nat) (hn0 : va_nd isC = true) (hC : isC.map (fun i => wsW[i]?) = wc.map some) (ci q0 : Nat) {fs : List Value} {q : vw_C} (he : wc[q0]? = some (b, .inr (ci, fs))) (hc : vwCl[ci]? = some q) (hq : q.1 = C)
    (hst : st = As.reverse ++ .ref b :: rest) (hn : As.length = n) (hsize : ls.size = nL) (hW : (rest.map fun v => v.category).sum ≤ 8) (hdg : decode cc pc = .ok (.invokevirtual index, 3)) (hf : cells + rmy.cells ≤ R.cells ∧ slots + rmy.slots ≤ R.slots) :
    va_Run p l e R s m args below meth c H locs cells slots rmy.cells rmy.slots (F0 m pc ls st) rest (Qc (Value.ref b :: As).toArray) free := by
  subst hq
  have hDc := hD.sub isC hn0 hC
  have hPc : va_P D vwCl wc H := by
    intro k q hk
    have h1 : (isC.map (fun i => wsW[i]?))[k]? = some (some q) := by rw [hC, List.getElem?_map, hk]; rfl
    rw [List.getElem?_map] at h1
    cases hi : isC[k]? with
    | none => rw [hi] at h1; cases h1
    | some i => rw [hi] at h1; exact hP i q (Option.some.inj h1)
  exact va_runV (g := F0 m pc ls st) S hM cw ⟨cS_blind, va_recv hK hPc hc he, fun U hU hW => ⟨rfl, by rw [hU], by rw [hU]; exact hPc, va_K.moved hW.alike hK, hDc.weaken (fun _ _ _ _ => trivial), hN.warm hW⟩⟩ rfl hn hsize hst (lv_room hW) hdg hf
theorem sub_P (hP : va_P D vwCl wsW H) {isC : List Nat} (hC : isC.map (fun i => wsW[i]?) = wc.map some) : va_P D vwCl wc H := by
  intro k q hk
  have h1 : (isC.map (fun i => wsW[i]?))[k]? = some (some q) := by rw [hC, List.getElem?_map, hk]; rfl
  rw [List.getElem?_map] at h1
  cases hi : isC[k]? with
  | none => rw [hi] at h1; cases h1
  | some i => rw [hi] at h1; exact hP i q (Option.some.inj h1)
theorem preS (hK : va_K D vwCl tys s) (hN : NW s) (hP : va_P D vwCl wsW H) (hD : va_D A wsW) (isC : List Nat) (hn0 : va_nd isC = true) (hC : isC.map (fun i => wsW[i]?) = wc.map some) : PreS s H (va_Pc As (cS D tys H.size wc)) As :=
  ⟨cS_blind, fun U hU hW => ⟨rfl, by rw [hU], by rw [hU]; exact sub_P hP hC, va_K.moved hW.alike hK, (hD.sub isC hn0 hC).weaken (fun _ _ _ _ => trivial), hN.warm hW⟩⟩
theorem run_S (S : CallFix p m c cc nL s args Ts own) (hM : Met l y wsy rmy (va_Pc As (cS D tys H.size wc)) Qc rmy.cells rmy.slots free) (cw : CallB R s args own index y bytes maxL ret wsy rmy rmy.cells rmy.slots n ∧ (Cond.static y).before args s = true)
    (hK : va_K D vwCl tys s) (hN : NW s) (hP : va_P D vwCl wsW H) (hD : va_D A wsW) (isC : List Nat) (hn0 : va_nd isC = true) (hC : isC.map (fun i => wsW[i]?) = wc.map some)
    (hst : st = As.reverse ++ rest) (hn : As.length = n) (hsize : ls.size = nL) (hW : (rest.map fun v => v.category).sum ≤ 8) (hdg : decode cc pc = .ok (.invokestatic index, 3)) (hf : cells + rmy.cells ≤ R.cells ∧ slots + rmy.slots ≤ R.slots) :
    va_Run p l e R s m args below meth c H locs cells slots rmy.cells rmy.slots (F0 m pc ls st) rest (Qc As.toArray) free :=
  va_runS (g := F0 m pc ls st) S hM cw (preS hK hN hP hD isC hn0 hC) rfl hn hsize hst (lv_room hW) hdg hf
theorem run_SN {host : String} (S : CallFix p m c cc nL s args Ts own) (hM : Met l y wsy rmy (va_Pc As (cS D tys H.size wc)) Qc rmy.cells rmy.slots free) (cw : va_CN R s args own index y host bytes maxL ret wsy rmy rmy.cells rmy.slots n ∧ (Cond.static y).before args s = true)
    (hK : va_K D vwCl tys s) (hN : NW s) (hP : va_P D vwCl wsW H) (hD : va_D A wsW) (isC : List Nat) (hn0 : va_nd isC = true) (hC : isC.map (fun i => wsW[i]?) = wc.map some)
    (hst : st = As.reverse ++ rest) (hn : As.length = n) (hsize : ls.size = nL) (hW : (rest.map fun v => v.category).sum ≤ 8) (hdg : decode cc pc = .ok (.invokestatic index, 3)) (hf : cells + rmy.cells ≤ R.cells ∧ slots + rmy.slots ≤ R.slots) :
    va_Run p l e R s m args below meth c H locs cells slots rmy.cells rmy.slots (F0 m pc ls st) rest (Qc As.toArray) free :=
  va_runSN (g := F0 m pc ls st) S hM ⟨cw.1, cw.2, trivial⟩ (preS hK hN hP hD isC hn0 hC) rfl hn hsize hst (lv_room hW) hdg hf
theorem run_I (S : CallFix p m c cc nL s args Ts own) (hM : Met l y wsy rmy (va_Pc (.ref b :: As) (cS D tys H.size wc)) Qc rmy.cells rmy.slots free) (cw : CallB R s args own index y bytes maxL none wsy rmy rmy.cells rmy.slots n ∧ y.name = "<init>" ∧ (Cond.instanceMethod y).before args s = true)
    (hK : va_K D vwCl tys s) (hN : NW s) (hP : va_P D vwCl wsW H) (hD : va_D A wsW) (isC : List Nat) (hn0 : va_nd isC = true) (hC : isC.map (fun i => wsW[i]?) = wc.map some)
    (hst : st = As.reverse ++ .ref b :: rest) (hn : As.length = n) (hsize : ls.size = nL) (hW : (rest.map fun v => v.category).sum ≤ 8) (hdg : decode cc pc = .ok (.invokespecial index, 3)) (hf : cells + rmy.cells ≤ R.cells ∧ slots + rmy.slots ≤ R.slots) :
    va_Run p l e R s m args below meth c H locs cells slots rmy.cells rmy.slots (F0 m pc ls st) rest (Qc (Value.ref b :: As).toArray) free :=
  va_runI (g := F0 m pc ls st) S hM cw (preS hK hN hP hD isC hn0 hC) rfl hn hsize hst (lv_room hW) hdg hf
theorem run_IN {host : String} (S : CallFix p m c cc nL s args Ts own) (hM : Met l y wsy rmy (va_Pc (.ref b :: As) (cS D tys H.size wc)) Qc rmy.cells rmy.slots free) (cw : va_CN R s args own index y host bytes maxL none wsy rmy rmy.cells rmy.slots n ∧ y.name = "<init>" ∧ (Cond.instanceMethod y).before args s = true)
    (hK : va_K D vwCl tys s) (hN : NW s) (hP : va_P D vwCl wsW H) (hD : va_D A wsW) (isC : List Nat) (hn0 : va_nd isC = true) (hC : isC.map (fun i => wsW[i]?) = wc.map some)
    (hst : st = As.reverse ++ .ref b :: rest) (hn : As.length = n) (hsize : ls.size = nL) (hW : (rest.map fun v => v.category).sum ≤ 8) (hdg : decode cc pc = .ok (.invokespecial index, 3)) (hf : cells + rmy.cells ≤ R.cells ∧ slots + rmy.slots ≤ R.slots) :
    va_Run p l e R s m args below meth c H locs cells slots rmy.cells rmy.slots (F0 m pc ls st) rest (Qc (Value.ref b :: As).toArray) free :=
  va_runIN (g := F0 m pc ls st) S hM cw (preS hK hN hP hD isC hn0 hC) rfl hn hsize hst (lv_room hW) hdg hf
theorem call_i {a : Array Value} {r : Int32} {mc ms k n : Nat} (hr : va_Run p l e R s m args below meth c H locs cells slots mc ms (F0 m pc ls st) rest (va_Qi (fun x (_ : Unit) => x = r) (fun _ t => cE D (va_A wc H.size) w1 t) (va_A wc H.size) a) (va_A wc H.size))
    (hP : va_P D vwCl wsW H) (hD : va_D A wsW) (hS : va_S A H0 H locs) (hA : ∀ q, H0.size ≤ q → A q) (isC isR : List Nat) (hC : isC.map (fun i => wsW[i]?) = wc.map some) (hR : isR.map (fun i => wsW[i]?) = wr.map some) (hn : va_nd isR = true) (hdis : ∀ i ∈ isR, i ∉ isC) (hck : cells + mc ≤ k) (hsn : slots + ms ≤ n)
    (kk : ∀ (H1 : Heap) (locs1 : List Loc), va_P D vwCl (wr ++ w1) H1 → va_D A (wr ++ w1) → va_S A H0 H1 locs1 → W p l e R s m args below meth c H1 locs1 k n Q (F0 m (pc + 3) ls (.int r :: rest))) :
    W p l e R s m args below meth c H locs cells slots Q (F0 m pc ls st) := by
  have hF := va_free hD hS hA isC hC
  refine va_calli hr hS (fun q _ h => hF q h) hF (fun r' u t H1 locs1 ht hvm hw hB hz1 hk1 hS1 => ?_)
  obtain ⟨hP1, hD1⟩ := hB
  rw [ht] at hP1
  obtain ⟨hP2, hD2⟩ := va_join hP hD isC isR hC hR hn hdis hk1 hF hP1 hD1
  rw [hw]
  exact W.widen hck hsn (kk H1 locs1 hP2 hD2 hS1)
theorem call_l {a : Array Value} {r : Int64} {mc ms k n : Nat} (hr : va_Run p l e R s m args below meth c H locs cells slots mc ms (F0 m pc ls st) rest (va_Ql (fun x (_ : Unit) => x = r) (fun _ t => cE D (va_A wc H.size) w1 t) (va_A wc H.size) a) (va_A wc H.size))
    (hP : va_P D vwCl wsW H) (hD : va_D A wsW) (hS : va_S A H0 H locs) (hA : ∀ q, H0.size ≤ q → A q) (isC isR : List Nat) (hC : isC.map (fun i => wsW[i]?) = wc.map some) (hR : isR.map (fun i => wsW[i]?) = wr.map some) (hn : va_nd isR = true) (hdis : ∀ i ∈ isR, i ∉ isC) (hck : cells + mc ≤ k) (hsn : slots + ms ≤ n)
    (kk : ∀ (H1 : Heap) (locs1 : List Loc), va_P D vwCl (wr ++ w1) H1 → va_D A (wr ++ w1) → va_S A H0 H1 locs1 → W p l e R s m args below meth c H1 locs1 k n Q (F0 m (pc + 3) ls (.long r :: rest))) :
    W p l e R s m args below meth c H locs cells slots Q (F0 m pc ls st) := by
  have hF := va_free hD hS hA isC hC
  refine va_calll hr hS (fun q _ h => hF q h) hF (fun r' u t H1 locs1 ht hvm hw hB hz1 hk1 hS1 => ?_)
  obtain ⟨hP1, hD1⟩ := hB
  rw [ht] at hP1
  obtain ⟨hP2, hD2⟩ := va_join hP hD isC isR hC hR hn hdis hk1 hF hP1 hD1
  rw [hw]
  exact W.widen hck hsn (kk H1 locs1 hP2 hD2 hS1)
theorem call_v {S : Type} {w1 : S → va_W} {a : Array Value} {mc ms k n : Nat} (hr : va_Run p l e R s m args below meth c H locs cells slots mc ms (F0 m pc ls st) rest (va_Qv (fun (_ : S) => True) (fun u t => cE D (va_A wc H.size) (w1 u) t) (va_A wc H.size) a) (va_A wc H.size))
    (hP : va_P D vwCl wsW H) (hD : va_D A wsW) (hS : va_S A H0 H locs) (hA : ∀ q, H0.size ≤ q → A q) (isC isR : List Nat) (hC : isC.map (fun i => wsW[i]?) = wc.map some) (hR : isR.map (fun i => wsW[i]?) = wr.map some) (hn : va_nd isR = true) (hdis : ∀ i ∈ isR, i ∉ isC) (hck : cells + mc ≤ k) (hsn : slots + ms ≤ n)
    (kk : ∀ (u : S) (H1 : Heap) (locs1 : List Loc), va_P D vwCl (wr ++ w1 u) H1 → va_D A (wr ++ w1 u) → va_S A H0 H1 locs1 → W p l e R s m args below meth c H1 locs1 k n Q (F0 m (pc + 3) ls rest)) :
    W p l e R s m args below meth c H locs cells slots Q (F0 m pc ls st) := by
  have hF := va_free hD hS hA isC hC
  refine va_callv hr hS (fun q _ h => hF q h) hF (fun u t H1 locs1 ht hvm hw hB hz1 hk1 hS1 => ?_)
  obtain ⟨hP1, hD1⟩ := hB
  rw [ht] at hP1
  obtain ⟨hP2, hD2⟩ := va_join hP hD isC isR hC hR hn hdis hk1 hF hP1 hD1
  exact W.widen hck hsn (kk u H1 locs1 hP2 hD2 hS1)
variable {a : Nat}
theorem r_ald (hexec : p.tables.exec = Jvm.exec) (hb : c.code = cc) (hK : va_K D vwCl tys s) (hP : va_P D vwCl wsW H) (q0 t0 : Nat) {cA : ClassId} {n : Nat} {f : Nat → Int32} (ha : wsW[q0]? = some (a, .inl (cA, n, .inl f))) (ht : tys[t0]? = some (cA, .int)) {i : Int32} (k : Nat) (hi : i = nI k) (hkn : k < n) (hn : n < 2 ^ 31) {v : Int32} (hv : f k = v) (hdg : decode cc pc = .ok (.iaload, 1))
    (kk : W p l e R s m args below meth c H locs cells slots Q (F0 m (pc + 1) ls (.int v :: rest))) : W p l e R s m args below meth c H locs cells slots Q (F0 m pc ls (.int i :: .ref a :: rest)) := by
  subst hi
  refine va_iald hexec hb hK hP q0 t0 ha ht (vp_in_nI hkn hn) hdg ?_
  rw [nI_clamp (Nat.lt_trans hkn hn), hv]
  exact kk
theorem r_ast (hexec : p.tables.exec = Jvm.exec) (hb : c.code = cc) (hK : va_K D vwCl tys s) (hP : va_P D vwCl wsW H) (hD : va_D A wsW) (hS : va_S A H0 H locs) (q0 t0 : Nat) {cA : ClassId} {n : Nat} {f : Nat → Int32} (ha : wsW[q0]? = some (a, .inl (cA, n, .inl f))) (ht : tys[t0]? = some (cA, .int)) {i x : Int32} (k : Nat) (hi : i = nI k) (hkn : k < n) (hn : n < 2 ^ 31) (hdg : decode cc pc = .ok (.iastore, 1))
    (kk : ∀ (H1 : Heap) (locs1 : List Loc), va_P D vwCl (wsW.set q0 (a, .inl (cA, n, .inl (upd f k x)))) H1 → va_D A (wsW.set q0 (a, .inl (cA, n, .inl (upd f k x)))) → va_S A H0 H1 locs1 → W p l e R s m args below meth c H1 locs1 cells slots Q (F0 m (pc + 1) ls rest)) : W p l e R s m args below meth c H locs cells slots Q (F0 m pc ls (.int x :: .int i :: .ref a :: rest)) := by
  subst hi
  refine va_iast hexec hb hK hP hD hS q0 t0 ha ht (vp_in_nI hkn hn) hdg (fun H1 locs1 h1 h2 h3 => ?_)
  rw [nI_clamp (Nat.lt_trans hkn hn)] at h1 h2
  exact kk H1 locs1 h1 h2 h3
/-- one array class of a name -/
theorem ra_eq {U : State} {c1 c2 : ClassId} {ty : FieldType} (h1 : va_RA U c1 ty) (h2 : va_RA U c2 ty) : c1 = c2 := by
  cases ty with
  | object C =>
    obtain ⟨-, -, -, -, -, e1⟩ := h1
    obtain ⟨-, -, -, -, -, e2⟩ := h2
    exact Option.some.inj (e1.symm.trans e2)
  | _ => exact Option.some.inj (Eq.trans (Eq.symm h1) h2)
theorem r_newa (hexec : p.tables.exec = Jvm.exec) (hb : c.code = cc) {atype : ArrayType} (harr : (Cond.arrayClass (newarray.typeOf atype)).before args s = true) {ty : FieldType} (hty : newarray.typeOf atype = ty) (hK : va_K D vwCl tys s) (hP : va_P D vwCl wsW H) (hD : va_D A wsW) (hS : va_S A H0 H locs) (hA : ∀ q, H0.size ≤ q → A q) (t0 : Nat) {cA : ClassId} (ht : tys[t0]? = some (cA, ty))
    {n : Int32} {N' : Nat} {a0 : vp_A} (ha : ∀ cA : ClassId, vp_cell cA a0 = arrV cA N' (fun _ => defaultValue ty)) (hn : ¬ n < 0) (hN : n.toNatClampNeg = N') (hbytes : N' * componentBytes ty ≤ 536870912) (hcells : cells + 1 ≤ R.cells) (hslots : slots + N' ≤ R.slots) (hdg : decode cc pc = .ok (.newarray atype, 2))
    (kk : ∀ (q : Nat) (H1 : Heap), va_P D vwCl (wsW ++ [(q, .inl (cA, a0))]) H1 → va_D A (wsW ++ [(q, .inl (cA, a0))]) → va_S A H0 H1 locs →
      W p l e R s m args below meth c H1 locs (cells + 1) (slots + N') Q (F0 m (pc + 2) ls (.ref q :: rest))) : W p l e R s m args below meth c H locs cells slots Q (F0 m pc ls (.int n :: rest)) := by
  refine va_newa hexec hb harr hty hK hP hD hS hA ha hn hN hbytes hcells hslots hdg (fun q cB H1 hK1 hP1 hD1 hS1 => ?_)
  have e1 := (hK1.2 tys.length (cB, ty) (by simp)).2
  have e2 := (hK.2 t0 _ ht).2
  have e3 : cB = cA := ra_eq e1 e2
  subst e3
  exact kk q H1 hP1 hD1 hS1
end
end BASE
section BASE2
/-- contents that are the same as far as the array reaches -/
theorem cell_congr {cA : ClassId} {n : Nat} {f g : Nat → Int32} (h : ∀ k, k < n → f k = g k) : vp_cell cA (n, .inl f) = vp_cell cA (n, .inl g) := by
  show arrV cA n (fun j => .int (f j)) = arrV cA n (fun j => .int (g j))
  unfold arrV
  congr 1
  apply Array.ext
  · simp
  · intro i h1 h2
    simp only [Array.size_ofFn] at h1
    simp [h i h1]
theorem P_congr {D : va_G} {cl : List vw_C} {ws : va_W} {H : Heap} (hP : va_P D cl ws H) (q0 : Nat) {a : Nat} {cA : ClassId} {n : Nat} {f g : Nat → Int32} (ha : ws[q0]? = some (a, .inl (cA, n, .inl f))) (h : ∀ k, k < n → f k = g k) : va_P D cl (ws.set q0 (a, .inl (cA, n, .inl g))) H := by
  intro k q hk
  by_cases hq : k = q0
  · subst hq
    rw [List.getElem?_set_self (List.getElem?_eq_some_iff.mp ha).1] at hk
    cases hk
    have h1 : H[a]? = some (vp_cell cA (n, .inl f)) := hP k _ ha
    show H[a]? = some (vp_cell cA (n, .inl g))
    rw [h1, cell_congr h]
  · rw [List.getElem?_set_ne (Ne.symm hq)] at hk
    exact hP k q hk
section
variable {p : Program} {l : Launch} {e : Env} {R : Room} {s : State} {m : MethodId} {args : Array Value} {below : List Frame} {meth : Method} {c : Code} {H : Heap} {locs : List Loc} {cells slots : Nat} {Q : State → Prop}
variable {cc : ByteArray} {pc : Nat} {ls : Array Slot} {rest : List Value} {D : va_G} {tys : List (ClassId × FieldType)} {A : Nat → Prop} {wsW : va_W} {H0 : Heap} {a : Nat}
theorem r_copy (hexec : p.tables.exec = Jvm.exec) (hb : c.code = cc) (hml : c.maxLocals = ls.size) {own : String} {index : Nat} (hown : s.vm.findClass own = some m.cls) (hlink : (Cond.methodLink own index arraycopyName).before args s = true) (hnat : (Cond.native arraycopyName).before args s = true) (hstat : (Cond.static arraycopyName).before args s = true) (hini : (Cond.initialized "java/lang/System").before args s = true)
    (hK : va_K D vwCl tys s) (hP : va_P D vwCl wsW H) (hD : va_D A wsW) (hS : va_S A H0 H locs) (q0 q1 t0 t1 : Nat) {a0 : Nat} {c0 c1 : ClassId} {n : Nat} {f g : Nat → Int32} {i : Int32} (ha0 : wsW[q0]? = some (a0, .inl (c0, n, .inl f))) (ha1 : wsW[q1]? = some (a, .inl (c1, n, .inl g))) (ht0 : tys[t0]? = some (c0, .int)) (ht1 : tys[t1]? = some (c1, .int))
    (hi : i = nI n) (hn : n < 2 ^ 31)
    (hframes : 1 ≤ R.frames) (hlocals : (rest.map fun v => v.category).sum + (nativeFrameWords "java/lang/System" "arraycopy" 5 + 11) ≤ R.locals) (hdg : decode cc pc = .ok (.invokestatic index, 3))
    (kk : ∀ (H1 : Heap) (locs1 : List Loc), va_P D vwCl (wsW.set q1 (a, .inl (c1, n, .inl f))) H1 → va_D A (wsW.set q1 (a, .inl (c1, n, .inl f))) → va_S A H0 H1 locs1 → W p l e R s m args below meth c H1 locs1 cells slots Q (F0 m (pc + 3) ls rest)) : W p l e R s m args below meth c H locs cells slots Q (F0 m pc ls (.int i :: .int 0 :: .ref a :: .int 0 :: .ref a0 :: rest)) := by
  subst hi
  have e0 : (0 : Int32).toNatClampNeg = 0 := rfl
  have en := nI_clamp hn
  refine va_copyi hexec hb hml hown hlink hnat hstat hini hK hP hD hS q0 q1 t0 t1 ha0 ha1 ht0 ht1 rfl (by decide) (by decide) (nI_pos hn) (by rw [e0, en]; omega) (by rw [e0, en]; omega) (fun i _ => rfl) hframes hlocals hdg (fun H1 locs1 h1 h2 h3 => ?_)
  rw [e0, en] at h1 h2
  have hl1 := (List.getElem?_eq_some_iff.mp ha1).1
  have h4 := P_congr h1 q1 (g := f) (List.getElem?_set_self hl1) (fun k hk => by
    show va_cpy f g 0 0 n k = f k
    unfold va_cpy
    rw [if_pos ⟨Nat.zero_le _, by omega⟩]
    congr 1
    omega)
  have h5 := h2.set (e := .inl (c1, n, .inl f)) (List.getElem?_set_self hl1)
  rw [List.set_set] at h4 h5
  exact kk H1 locs1 h4 h5 h3
theorem lv_tope {x y : Int32} (h : y = x) (k : W p l e R s m args below meth c H locs cells slots Q (F0 m pc ls (.int y :: rest))) : W p l e R s m args below meth c H locs cells slots Q (F0 m pc ls (.int x :: rest)) := h ▸ k
theorem r_lald (hexec : p.tables.exec = Jvm.exec) (hb : c.code = cc) (hK : va_K D vwCl tys s) (hP : va_P D vwCl wsW H) (q0 t0 : Nat) {cA : ClassId} {n : Nat} {f : Nat → Int64} (ha : wsW[q0]? = some (a, .inl (cA, n, .inr (.inl f)))) (ht : tys[t0]? = some (cA, .long)) {i : Int32} (k : Nat) (hi : i = nI k) (hkn : k < n) (hn : n < 2 ^ 31) (hdg : decode cc pc = .ok (.laload, 1))
    (kk : W p l e R s m args below meth c H locs cells slots Q (F0 m (pc + 1) ls (.long (f k) :: rest))) : W p l e R s m args below meth c H locs cells slots Q (F0 m pc ls (.int i :: .ref a :: rest)) := by
  subst hi
  refine va_lald hexec hb hK hP q0 t0 ha ht (vp_in_nI hkn hn) hdg ?_
  rw [nI_clamp (Nat.lt_trans hkn hn)]
  exact kk
theorem r_last (hexec : p.tables.exec = Jvm.exec) (hb : c.code = cc) (hK : va_K D vwCl tys s) (hP : va_P D vwCl wsW H) (hD : va_D A wsW) (hS : va_S A H0 H locs) (q0 t0 : Nat) {cA : ClassId} {n : Nat} {f : Nat → Int64} (ha : wsW[q0]? = some (a, .inl (cA, n, .inr (.inl f)))) (ht : tys[t0]? = some (cA, .long)) {i : Int32} {x : Int64} (k : Nat) (hi : i = nI k) (hkn : k < n) (hn : n < 2 ^ 31) (hdg : decode cc pc = .ok (.lastore, 1))
    (kk : ∀ (H1 : Heap) (locs1 : List Loc), va_P D vwCl (wsW.set q0 (a, .inl (cA, n, .inr (.inl (vp_updL f k x))))) H1 → va_D A (wsW.set q0 (a, .inl (cA, n, .inr (.inl (vp_updL f k x))))) → va_S A H0 H1 locs1 → W p l e R s m args below meth c H1 locs1 cells slots Q (F0 m (pc + 1) ls rest)) : W p l e R s m args below meth c H locs cells slots Q (F0 m pc ls (.long x :: .int i :: .ref a :: rest)) := by
  subst hi
  refine va_last hexec hb hK hP hD hS q0 t0 ha ht (vp_in_nI hkn hn) hdg (fun H1 locs1 h1 h2 h3 => ?_)
  rw [nI_clamp (Nat.lt_trans hkn hn)] at h1 h2
  exact kk H1 locs1 h1 h2 h3
theorem r_zald (hexec : p.tables.exec = Jvm.exec) (hb : c.code = cc) (hK : va_K D vwCl tys s) (hP : va_P D vwCl wsW H) (q0 t0 : Nat) {cA : ClassId} {n : Nat} {f : Nat → Int32} (ha : wsW[q0]? = some (a, .inl (cA, n, .inl f))) (ht : tys[t0]? = some (cA, .boolean)) {i : Int32} (k : Nat) (hi : i = nI k) (hkn : k < n) (hn : n < 2 ^ 31) (hdg : decode cc pc = .ok (.baload, 1))
    (kk : W p l e R s m args below meth c H locs cells slots Q (F0 m (pc + 1) ls (.int (f k) :: rest))) : W p l e R s m args below meth c H locs cells slots Q (F0 m pc ls (.int i :: .ref a :: rest)) := by
  subst hi
  refine va_zald hexec hb hK hP q0 t0 ha ht (vp_in_nI hkn hn) hdg ?_
  rw [nI_clamp (Nat.lt_trans hkn hn)]
  exact kk
theorem r_zast (hexec : p.tables.exec = Jvm.exec) (hb : c.code = cc) (hK : va_K D vwCl tys s) (hP : va_P D vwCl wsW H) (hD : va_D A wsW) (hS : va_S A H0 H locs) (q0 t0 : Nat) {cA : ClassId} {n : Nat} {f : Nat → Int32} (ha : wsW[q0]? = some (a, .inl (cA, n, .inl f))) (ht : tys[t0]? = some (cA, .boolean)) {i x : Int32} (k : Nat) (hi : i = nI k) (hkn : k < n) (hn : n < 2 ^ 31) (hx1 : vp_nar .boolean x = x) (hdg : decode cc pc = .ok (.bastore, 1))
    (kk : ∀ (H1 : Heap) (locs1 : List Loc), va_P D vwCl (wsW.set q0 (a, .inl (cA, n, .inl (upd f k x)))) H1 → va_D A (wsW.set q0 (a, .inl (cA, n, .inl (upd f k x)))) → va_S A H0 H1 locs1 → W p l e R s m args below meth c H1 locs1 cells slots Q (F0 m (pc + 1) ls rest)) : W p l e R s m args below meth c H locs cells slots Q (F0 m pc ls (.int x :: .int i :: .ref a :: rest)) := by
  subst hi
  refine va_zast hexec hb hK hP hD hS q0 t0 ha ht (vp_in_nI hkn hn) hdg (fun H1 locs1 h1 h2 h3 => ?_)
  rw [nI_clamp (Nat.lt_trans hkn hn), hx1] at h1 h2
  exact kk H1 locs1 h1 h2 h3
end
theorem i32_ne {x k : Int32} (h : ¬ x = k) : x.toInt ≠ k.toInt := fun e => h (Int32.toInt_inj.mp e)
theorem i32_neK (n : Nat) {x : Int32} (h : ¬ x = nI n) (hn : n < 2147483648) : x.toInt ≠ (n : Int) := by
  have := i32_ne h
  rwa [nI_toInt hn] at this
theorem gd_ex {x : Int32} {N i : Nat} (hx : x = nI N) (hN : N < 2147483648) (hi : i ≤ N) (c : x ≤ nI i) : N ≤ i := by
  subst hx
  exact (nI_leI hN (by omega)).mp c
theorem gd_in {x : Int32} {N i : Nat} (hx : x = nI N) (hN : N < 2147483648) (hi : i ≤ N) (c : ¬ x ≤ nI i) : i < N := by
  subst hx
  exact Nat.lt_of_not_le (fun h => c ((nI_leI hN (by omega)).mpr h))
theorem P_eq {D : va_G} {cl : List vw_C} {w w' : va_W} {H : Heap} (e : w = w') (h : va_P D cl w H) : va_P D cl w' H := e ▸ h
theorem D_eq {A : Nat → Prop} {w w' : va_W} (e : w = w') (h : va_D A w) : va_D A w' := e ▸ h
theorem L_eq {ls : Array Slot} {n : Nat} {w w' : List (Nat × Value)} (e : w = w') (h : lv_has ls n w) : lv_has ls n w' := e ▸ h
def fillN (f : Nat → Int32) (v : Int32) : Nat → (Nat → Int32)
  | 0 => f
  | i + 1 => upd (fillN f v i) i v
theorem fillN_at (f : Nat → Int32) (v : Int32) (n k : Nat) : fillN f v n k = if k < n then v else f k := by
  induction n with
  | zero => simp [fillN]
  | succ n ih =>
    simp only [fillN, upd]
    by_cases h : k = n
    · simp [h]
    · rw [if_neg h, ih]
      by_cases h2 : k < n
      · rw [if_pos h2, if_pos (by omega)]
      · rw [if_neg h2, if_neg (by omega)]
end BASE2
