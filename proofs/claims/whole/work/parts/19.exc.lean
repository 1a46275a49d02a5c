section EXC
abbrev eA : String := "java/lang/IllegalArgumentException"
abbrev eS : String := "java/lang/IllegalStateException"
abbrev eB : String := "java/lang/IndexOutOfBoundsException"
abbrev nmsX : List String := ["java/lang/RuntimeException", "java/lang/Exception"]
abbrev iS (X : String) : MethodName := ⟨X, "<init>", "(Ljava/lang/String;)V"⟩
/-- the class's texts, by their places -/
def strs : List (Nat × String) := [(31, "voltage or frequency out of range"), (51, "by out of range"), (67, "load, resonance or quality out of range"), (73, "kp or ki out of range"), (88, "tolerance or ticks out of range"), (98, "a limit of the window is out of range"), (118, "delay, ramp or rating out of range"), (129, "shift or gain out of range"), (137, "kind, threshold or duration out of range"), (151, "there are 8 rules"), (164, "ticks out of range"), (198, "what is not 0 to 9"), (206, "there is no such rule"), (223, "what is neither 0 nor 1"), (231, "an argument is out of range"), (233, "the inverter is not RUNNING"), (249, "the slot does not exist"), (251, "nothing was saved in the slot")]
/-- the words of a throw that aren't good ones, and the texts -/
def XS (U : State) : Prop := va_Nw (.declares (iS "java/lang/RuntimeException")) U ∧ va_Nw (.declares (iS "java/lang/Exception")) U ∧ va_Nw (.declares (iS "java/lang/Throwable")) U ∧ va_Nw (.castable eA eA) U ∧ va_Nw (.castable eS eS) U ∧ va_Nw (.castable eB eB) U ∧ (∀ q ∈ strs, ∃ sa, vk_R RX6 q.1 q.2 sa U) ∧ va_Nc eS eA U
theorem XS.warm {s U : State} (hW : s.WarmedH U.vm) (h : XS s) : XS U := by
  obtain ⟨h1, h2, h3, h4, h5, h6, h7, h8⟩ := h
  refine ⟨va_Nw.warmD hW h1, va_Nw.warmD hW h2, va_Nw.warmD hW h3, va_Nw.warmC hW h4, va_Nw.warmC hW h5, va_Nw.warmC hW h6, fun q hq => ?_, h8.moved hW.alike⟩
  obtain ⟨sa, hs⟩ := h7 q hq
  exact ⟨sa, vk_R.warm hW hs⟩
theorem XS.same {u U : State} (h : u.vm = U.vm) (hZ : XS u) : XS U := by
  obtain ⟨h1, h2, h3, h4, h5, h6, h7, h8⟩ := hZ
  refine ⟨va_Nw.same rfl h h1, va_Nw.same rfl h h2, va_Nw.same rfl h h3, va_Nw.same rfl h h4, va_Nw.same rfl h h5, va_Nw.same rfl h h6, fun q hq => ?_, h8.moved (show u.vm.Alike U.vm from h ▸ Vm.Alike.refl u.vm)⟩
  obtain ⟨sa, hs⟩ := h7 q hq
  exact ⟨sa, vk_R.same h.symm hs⟩
def ZS (A : Nat → Prop) (U : State) (H : Heap) : Prop := vx_Zq Bundle.tN "UNASSIGNED_STACK" Bundle.steD A U H ∧ vx_Zq Bundle.tN "SUPPRESSED_SENTINEL" Bundle.listD A U H
theorem ZS.moved {A : Nat → Prop} {u U : State} {H : Heap} (hvm : u.vm.Alike U.vm) (h : ZS A u H) : ZS A U H := ⟨h.1.moved hvm, h.2.moved hvm⟩
theorem ZS.kept {A : Nat → Prop} {U : State} {H H1 : Heap} (h : ZS A U H) (hq : ∀ a : Nat, a < H.size → ¬ A a → H1[a]? = H[a]?) : ZS A U H1 := ⟨h.1.kept hq, h.2.kept hq⟩
theorem ZS.narrow {A B : Nat → Prop} {U : State} {H : Heap} (h : ZS A U H) (hAB : ∀ q, B q → A q) : ZS B U H := ⟨h.1.narrow hAB, h.2.narrow hAB⟩
def cX (D : va_G) (tys : List (ClassId × FieldType)) (sz : Nat) (w : va_W) (U : State) : Prop := cS D tys sz w U ∧ XS U ∧ ZS (va_A w sz) U U.heap
theorem cX_blind {D : va_G} {tys : List (ClassId × FieldType)} {sz : Nat} {w : va_W} {av : List Value} : FrameBlind (va_Pc av (cX D tys sz w)) := fun a U g mk q => by
  obtain ⟨q0, q1, q2, q3⟩ := q
  exact ⟨q0, (cS_blind (av := av) a U g mk ⟨q0, q1⟩).2, XS.same rfl q2, ZS.moved (u := U) (U := U.calling g mk a) (Vm.Alike.refl U.vm) q3⟩
/-- a method that returns r where k is 0, and else throws the exception of the number k; the cells are w' behind it either way -/
def MXI (l : Launch) (y : MethodName) (ws : List Cond) (rm : Room) (D : va_G) (tys : List (ClassId × FieldType)) (av : List Value) (w : va_W) (k r : Int32) (w' : va_W) (EX : Int32 → String) : Prop :=
  ∀ sz : Nat, vx_Met l y ws rm (va_Pc av (cX D tys sz w)) (va_Qi (fun x (_ : Unit) => k = 0 ∧ x = r) (fun _ t => cE D (va_A w sz) w' t) (va_A w sz)) (vx_X (fun (_ : Unit) => ¬ k = 0) (fun E _ t => E = EX k ∧ cE D (va_A w sz) w' t) (va_A w sz)) rm.cells rm.slots (va_A w sz)
def MXV {S : Type} (l : Launch) (y : MethodName) (ws : List Cond) (rm : Room) (D : va_G) (tys : List (ClassId × FieldType)) (av : List Value) (w : va_W) (k : Int32) (w' : S → va_W) (EX : Int32 → String) : Prop :=
  ∀ sz : Nat, vx_Met l y ws rm (va_Pc av (cX D tys sz w)) (va_Qv (fun (_ : S) => k = 0) (fun u t => cE D (va_A w sz) (w' u) t) (va_A w sz)) (vx_X (fun (_ : S) => ¬ k = 0) (fun E u t => E = EX k ∧ cE D (va_A w sz) (w' u) t) (va_A w sz)) rm.cells rm.slots (va_A w sz)
def Thr (p : Program) (l : Launch) (e : Env) (rm : Room) (s : State) (m : MethodId) (args : Array Value) (below : List Frame) (meth : Method) (c : Code) (cc : ByteArray) (D : va_G) (maxL : Nat) (A : Nat → Prop) (Q : State → Prop) (k : Int32) (w' : va_W) (EX : Int32 → String) : Prop :=
  ∀ (cls text : String) (ik is ic : Nat) (H : Heap) (locs : List Loc) (cells slots pc : Nat) (ls : Array Slot) (rest : List Value) (wf : va_W), cls = EX k → ¬ k = 0 → wf = w' → va_P D vwCl wf H → va_D A wf → va_S A s.heap H locs → ls.size = maxL → Bundle.fit cls = true → (is, text) ∈ strs →
    (Cond.classLink RX6 ik cls).before args s = true → (Cond.initialized cls).before args s = true → (∀ w ∈ vx_atS RX6 ic cls nmsX, w.before args s = true) → (∀ w ∈ Cond.classLink RX6 ik cls :: Cond.initialized cls :: vx_atS RX6 ic cls nmsX, vx_ot w = true) →
    decode cc pc = .ok (.new ik, 3) → decode cc (pc + 3) = .ok (.dup, 1) → decode cc (pc + 4) = .ok (.ldc is, 2) → decode cc (pc + 6) = .ok (.invokespecial ic, 3) → decode cc (pc + 9) = .ok (.athrow, 1) → (rest.map fun v => v.category).sum + 82 ≤ rm.locals → 5 < rm.frames → cells + 1 ≤ rm.cells → slots + 6 ≤ rm.slots →
    W p l e rm s m args below meth c H locs cells slots Q (F0 m pc ls rest)
theorem nms_fit : ∀ n ∈ nmsX, Bundle.fit n = true := by decide +kernel
section
variable {l : Launch} {y : MethodName} {ws ws' : List Cond} {rm : Room} {D : va_G} {tys : List (ClassId × FieldType)} {av : List Value} {w w' : va_W} {cc : ByteArray} {maxL : Nat}
theorem thr_mk {p : Program} {e : Env} {s : State} {m : MethodId} {args : Array Value} {below : List Frame} {meth : Method} {c : Code} {A : Nat → Prop} {S : Type} {w2 : S → va_W} {k : Int32} {EX : Int32 → String} {Qc : Array Value → State → Outcome → State → Prop}
    (hlt : l.stackTraces = false) (hx : p.tables.exec = Jvm.exec) (hb : c.code = cc) (hml : c.maxLocals = maxL) (hown : s.vm.findClass RX6 = some m.cls) (hxs : XS s) (hzs : ZS A s s.heap) (hno : ∀ x ∈ c.exceptionTable.toList, False) (hlocks : meth.locks = false) (u : S) :
    Thr p l e rm s m args below meth c cc D maxL A (vx_MQ below Qc (vx_X (fun (_ : S) => ¬ k = 0) (fun E u t => E = EX k ∧ cE D A (w2 u) t) A) args s rm.cells rm.slots A) k (w2 u) EX := by
  intro cls text ik is ic H locs cells slots pc ls rest wf hcls hk0 hwf hP hD hS hls hfit hstr hk hini hat hgood d0 d3 d4 d6 d9 hrl hrf hrc hrs
  obtain ⟨sa, hsa⟩ := hxs.2.2.2.2.2.2.1 _ hstr
  refine vx_throwS (names := nmsX) hx hb hlt hown hfit nms_fit hk hini hsa hat hgood hzs.1 hzs.2 hS (hls.trans hml.symm) d0 d3 d4 d6 d9 (fun x h => (hno x h).elim) hrf hrl (Nat.le_trans (Nat.le_refl _) hrc) (Nat.le_trans (Nat.le_refl _) hrs) hlocks (fun t ht hz hq => ?_) hS.2.2 hrc hrs
  refine ⟨u, hk0, ⟨hcls, ?_, ?_⟩, Nat.le_trans hS.1 hz, fun q h1 h2 => ?_⟩
  · rw [← hwf]; exact hP.kept (fun k q hk => hq q.1 (hP k q hk).lt)
  · rw [← hwf]; exact hD
  · rw [hq q (Nat.lt_of_lt_of_le h1 hS.1)]; exact hS.2.1 q h1 h2
theorem MXI.of {k r : Int32} {EX : Int32 → String} {ret : FieldType} (hlt : l.stackTraces = false) (hy : plainName y.cls = true) (hw : ws = Cond.code y cc maxL (some ret) :: ws') (hyc : y.cls = RX6) (hn : (lg_sl av).length ≤ maxL) (hnar : narrow ret (.int r) = .int r)
    (body : ∀ (p : Program) (e : Env) (s : State) (m : MethodId) (args : Array Value) (below : List Frame) (meth : Method) (c : Code) (A : Nat → Prop) (Q : State → Prop) (ls : Array Slot) (H : Heap) (locs : List Loc),
      Bg p s m args meth c cc y.cls ws D tys maxL A → XS s → ZS A s s.heap → va_S A s.heap H locs → va_P D vwCl w H → va_D A w → lv_has ls maxL (lv_args 0 av) →
      (∀ (v : Int32) (H : Heap) (locs : List Loc) (cells slots pc : Nat) (ls : Array Slot) (wf : va_W), k = 0 → v = r → wf = w' → va_P D vwCl wf H → va_D A wf → va_S A s.heap H locs → cells ≤ rm.cells → slots ≤ rm.slots → decode cc pc = .ok (.ireturn, 1) →
        W p l e rm s m args below meth c H locs cells slots Q (F0 m pc ls [.int v])) →
      Thr p l e rm s m args below meth c cc D maxL A Q k w' EX →
      W p l e rm s m args below meth c H locs 0 0 Q (F0 m 0 ls [])) : MXI l y ws rm D tys av w k r w' EX := by
  intro sz
  refine vx_ofW (cc := cc) (maxL := maxL) (ret := some ret) hy hw ?_
  intro p e s m args below meth c s₁ B hml hno hv
  obtain ⟨rfl, ⟨hsz, hP, hK, hD0, hN⟩, hxs, hzs⟩ := hv
  subst hsz
  have hown : s.vm.findClass RX6 = some m.cls := hyc ▸ findClass_of_methodNamed B.named
  refine entry_ls hn (P := fun g => W p l e rm s m av.toArray below meth c s.heap [] 0 0 _ g) (fun ls hl => ?_)
  refine body p e s m _ below meth c (va_A w s.heap.size) _ ls s.heap [] ⟨B.exec, B.bytes, hml, findClass_of_methodNamed B.named, atoms_spec (ws := ws) B.pre, hK, hN, fun q h => Or.inr h, B.notSynchronized⟩ hxs hzs va_S.rf hP hD0.self hl ?_ (thr_mk (w2 := fun (_ : Unit) => w') hlt B.exec B.bytes hml hown hxs hzs hno B.notSynchronized ())
  intro v H locs cells slots pc ls wf hk hv hwf hP hD hS hc hs hdg
  subst hv; subst hwf
  refine vx_ret (W.widen hc hs ?_)
  exact W.zret (ty := ret) (v := v) B.exec B.bytes B.returns hnar (fun t ht hW => ⟨⟨v, (), rfl, ⟨hk, rfl⟩, by rw [ht]; exact hP, hD⟩, hS.F ht⟩) hS.2.2 hdg B.notSynchronized
theorem MXV.of {S : Type} {w' : S → va_W} {k : Int32} {EX : Int32 → String} (u0 : S) (hlt : l.stackTraces = false) (hy : plainName y.cls = true) (hw : ws = Cond.code y cc maxL none :: ws') (hyc : y.cls = RX6) (hn : (lg_sl av).length ≤ maxL)
    (body : ∀ (p : Program) (e : Env) (s : State) (m : MethodId) (args : Array Value) (below : List Frame) (meth : Method) (c : Code) (A : Nat → Prop) (Q : State → Prop) (ls : Array Slot) (H : Heap) (locs : List Loc),
      Bg p s m args meth c cc y.cls ws D tys maxL A → XS s → ZS A s s.heap → va_S A s.heap H locs → va_P D vwCl w H → va_D A w → lv_has ls maxL (lv_args 0 av) →
      (∀ (u : S) (H : Heap) (locs : List Loc) (cells slots pc : Nat) (ls : Array Slot) (wf : va_W), k = 0 → wf = w' u → va_P D vwCl wf H → va_D A wf → va_S A s.heap H locs → cells ≤ rm.cells → slots ≤ rm.slots → decode cc pc = .ok (.return_, 1) →
        W p l e rm s m args below meth c H locs cells slots Q (F0 m pc ls [])) →
      Thr p l e rm s m args below meth c cc D maxL A Q k (w' u0) EX →
      W p l e rm s m args below meth c H locs 0 0 Q (F0 m 0 ls [])) : MXV l y ws rm D tys av w k w' EX := by
  intro sz
  refine vx_ofW (cc := cc) (maxL := maxL) (ret := none) hy hw ?_
  intro p e s m args below meth c s₁ B hml hno hv
  obtain ⟨rfl, ⟨hsz, hP, hK, hD0, hN⟩, hxs, hzs⟩ := hv
  subst hsz
  have hown : s.vm.findClass RX6 = some m.cls := hyc ▸ findClass_of_methodNamed B.named
  refine entry_ls hn (P := fun g => W p l e rm s m av.toArray below meth c s.heap [] 0 0 _ g) (fun ls hl => ?_)
  refine body p e s m _ below meth c (va_A w s.heap.size) _ ls s.heap [] ⟨B.exec, B.bytes, hml, findClass_of_methodNamed B.named, atoms_spec (ws := ws) B.pre, hK, hN, fun q h => Or.inr h, B.notSynchronized⟩ hxs hzs va_S.rf hP hD0.self hl ?_ (thr_mk hlt B.exec B.bytes hml hown hxs hzs hno B.notSynchronized u0)
  intro u H locs cells slots pc ls wf hk hwf hP hD hS hc hs hdg
  subst hwf
  refine vx_ret (W.widen hc hs ?_)
  exact W.vret B.exec B.bytes B.returns (fun t ht hW => ⟨⟨u, rfl, hk, by rw [ht]; exact hP, hD⟩, hS.F ht⟩) hS.2.2 hdg B.notSynchronized
end
/-- the words of a throw: the good ones stand in the method's list, the others in XS -/
theorem hat_of {args : Array Value} {s : State} {ic : Nat} {X : String} (hxs : XS s) (h1 : ∀ w ∈ (vx_atS RX6 ic X nmsX).filter goodWord, w.before args s = true) (h2 : ∀ w ∈ (vx_atS RX6 ic X nmsX).filter (fun w => !goodWord w), w ∈ [Cond.declares (iS "java/lang/RuntimeException"), Cond.declares (iS "java/lang/Exception"), Cond.declares (iS "java/lang/Throwable"), Cond.castable eA eA, Cond.castable eS eS, Cond.castable eB eB]) : ∀ w ∈ vx_atS RX6 ic X nmsX, w.before args s = true := by
  obtain ⟨a1, a2, a3, a4, a5, a6, -⟩ := hxs
  exact vx_hat h1 h2 (vx_c (va_Nw.use rfl a1) (vx_c (va_Nw.use rfl a2) (vx_c (va_Nw.use rfl a3) (vx_c (va_Nw.use rfl a4) (vx_c (va_Nw.use rfl a5) (vx_c (va_Nw.use rfl a6) vx_n))))))
set_option maxRecDepth 20000 in
theorem ng_A : ∀ w ∈ (vx_atS RX6 33 eA nmsX).filter (fun w => !goodWord w), w ∈ [Cond.declares (iS "java/lang/RuntimeException"), Cond.declares (iS "java/lang/Exception"), Cond.declares (iS "java/lang/Throwable"), Cond.castable eA eA, Cond.castable eS eS, Cond.castable eB eB] := by decide +kernel
set_option maxRecDepth 20000 in
theorem ng_S : ∀ w ∈ (vx_atS RX6 153 eS nmsX).filter (fun w => !goodWord w), w ∈ [Cond.declares (iS "java/lang/RuntimeException"), Cond.declares (iS "java/lang/Exception"), Cond.declares (iS "java/lang/Throwable"), Cond.castable eA eA, Cond.castable eS eS, Cond.castable eB eB] := by decide +kernel
set_option maxRecDepth 20000 in
theorem ng_B : ∀ w ∈ (vx_atS RX6 208 eB nmsX).filter (fun w => !goodWord w), w ∈ [Cond.declares (iS "java/lang/RuntimeException"), Cond.declares (iS "java/lang/Exception"), Cond.declares (iS "java/lang/Throwable"), Cond.castable eA eA, Cond.castable eS eS, Cond.castable eB eB] := by decide +kernel
set_option maxRecDepth 20000 in
theorem ok_A : ∀ w ∈ Cond.classLink RX6 29 eA :: Cond.initialized eA :: vx_atS RX6 33 eA nmsX, vx_ot w = true := by decide +kernel
set_option maxRecDepth 20000 in
theorem ok_S : ∀ w ∈ Cond.classLink RX6 149 eS :: Cond.initialized eS :: vx_atS RX6 153 eS nmsX, vx_ot w = true := by decide +kernel
set_option maxRecDepth 20000 in
theorem ok_B : ∀ w ∈ Cond.classLink RX6 204 eB :: Cond.initialized eB :: vx_atS RX6 208 eB nmsX, vx_ot w = true := by decide +kernel
end EXC
