section
-- ===== PART A: goes FIRST, ahead of the names: the tables' words, and 'selects' of the private methods out of them =====
/-- a private method of a class that the tables say can be made, by its rows of tables_1 -/
def lw_okq (q : MethodName × Nat) : Prop := (q.1.cls ≠ "java/lang/invoke/MethodHandle" ∧ q.1.cls ≠ "java/lang/invoke/VarHandle") ∧ Cond.instantiable q.1.cls q.2 ∈ tables_1 ∧ Cond.privateMethod q.1 ∈ tables_1 ∧ Cond.instanceMethod q.1 ∈ tables_1
theorem lw_p0 : lw_okq (⟨"java/lang/Throwable", "fillInStackTrace", "(I)Ljava/lang/Throwable;"⟩, 6) := ⟨⟨by decide +kernel, by decide +kernel⟩, List.mem_of_getElem? (i := 374) (by decide +kernel), List.mem_of_getElem? (i := 372) (by decide +kernel), List.mem_of_getElem? (i := 373) (by decide +kernel)⟩
theorem lw_p1 : lw_okq (⟨"GridInverter$Line", "islandVoltage", "(I)I"⟩, 9) := ⟨⟨by decide +kernel, by decide +kernel⟩, List.mem_of_getElem? (i := 32) (by decide +kernel), List.mem_of_getElem? (i := 529) (by decide +kernel), List.mem_of_getElem? (i := 530) (by decide +kernel)⟩
theorem lw_p2 : lw_okq (⟨"GridInverter$Line", "islandFrequency", "(I)I"⟩, 9) := ⟨⟨by decide +kernel, by decide +kernel⟩, List.mem_of_getElem? (i := 32) (by decide +kernel), List.mem_of_getElem? (i := 536) (by decide +kernel), List.mem_of_getElem? (i := 537) (by decide +kernel)⟩
theorem lw_p3 : lw_okq (⟨"GridInverter$Simulation", "protect", "(I)V"⟩, 6) := ⟨⟨by decide +kernel, by decide +kernel⟩, List.mem_of_getElem? (i := 26) (by decide +kernel), List.mem_of_getElem? (i := 561) (by decide +kernel), List.mem_of_getElem? (i := 562) (by decide +kernel)⟩
theorem lw_p4 : lw_okq (⟨"GridInverter$Simulation", "trip", "(I)V"⟩, 6) := ⟨⟨by decide +kernel, by decide +kernel⟩, List.mem_of_getElem? (i := 26) (by decide +kernel), List.mem_of_getElem? (i := 566) (by decide +kernel), List.mem_of_getElem? (i := 567) (by decide +kernel)⟩
theorem lw_p5 : lw_okq (⟨"GridInverter$Simulation", "prepare", "()V"⟩, 6) := ⟨⟨by decide +kernel, by decide +kernel⟩, List.mem_of_getElem? (i := 26) (by decide +kernel), List.mem_of_getElem? (i := 582) (by decide +kernel), List.mem_of_getElem? (i := 583) (by decide +kernel)⟩
theorem lw_p6 : lw_okq (⟨"GridInverter$Log", "isKept", "(I)Z"⟩, 3) := ⟨⟨by decide +kernel, by decide +kernel⟩, List.mem_of_getElem? (i := 215) (by decide +kernel), List.mem_of_getElem? (i := 647) (by decide +kernel), List.mem_of_getElem? (i := 648) (by decide +kernel)⟩
theorem lw_p7 : lw_okq (⟨"GridInverter", "ticksToDetect", "(IIII)I"⟩, 3) := ⟨⟨by decide +kernel, by decide +kernel⟩, List.mem_of_getElem? (i := 18) (by decide +kernel), List.mem_of_getElem? (i := 664) (by decide +kernel), List.mem_of_getElem? (i := 665) (by decide +kernel)⟩
theorem lw_p8 : lw_okq (⟨"GridInverterModel", "becomeIsland", "(III)V"⟩, 7) := ⟨⟨by decide +kernel, by decide +kernel⟩, List.mem_of_getElem? (i := 731) (by decide +kernel), List.mem_of_getElem? (i := 798) (by decide +kernel), List.mem_of_getElem? (i := 799) (by decide +kernel)⟩
theorem lw_p9 : lw_okq (⟨"GridInverterModel", "note", "(I)V"⟩, 7) := ⟨⟨by decide +kernel, by decide +kernel⟩, List.mem_of_getElem? (i := 731) (by decide +kernel), List.mem_of_getElem? (i := 841) (by decide +kernel), List.mem_of_getElem? (i := 842) (by decide +kernel)⟩
theorem lw_p10 : lw_okq (⟨"GridInverterModel", "tick", "()V"⟩, 7) := ⟨⟨by decide +kernel, by decide +kernel⟩, List.mem_of_getElem? (i := 731) (by decide +kernel), List.mem_of_getElem? (i := 849) (by decide +kernel), List.mem_of_getElem? (i := 850) (by decide +kernel)⟩
theorem lw_p11 : lw_okq (⟨"GridInverterModel", "feedLine", "()V"⟩, 7) := ⟨⟨by decide +kernel, by decide +kernel⟩, List.mem_of_getElem? (i := 731) (by decide +kernel), List.mem_of_getElem? (i := 853) (by decide +kernel), List.mem_of_getElem? (i := 854) (by decide +kernel)⟩
theorem lw_p12 : lw_okq (⟨"GridInverterModel", "follow", "()V"⟩, 7) := ⟨⟨by decide +kernel, by decide +kernel⟩, List.mem_of_getElem? (i := 731) (by decide +kernel), List.mem_of_getElem? (i := 860) (by decide +kernel), List.mem_of_getElem? (i := 861) (by decide +kernel)⟩
theorem lw_p13 : lw_okq (⟨"GridInverterModel", "run", "()V"⟩, 7) := ⟨⟨by decide +kernel, by decide +kernel⟩, List.mem_of_getElem? (i := 731) (by decide +kernel), List.mem_of_getElem? (i := 864) (by decide +kernel), List.mem_of_getElem? (i := 865) (by decide +kernel)⟩
theorem lw_p14 : lw_okq (⟨"GridInverterModel", "hasLock", "()Z"⟩, 7) := ⟨⟨by decide +kernel, by decide +kernel⟩, List.mem_of_getElem? (i := 731) (by decide +kernel), List.mem_of_getElem? (i := 868) (by decide +kernel), List.mem_of_getElem? (i := 869) (by decide +kernel)⟩
theorem lw_p15 : lw_okq (⟨"GridInverterModel", "trip", "(I)V"⟩, 7) := ⟨⟨by decide +kernel, by decide +kernel⟩, List.mem_of_getElem? (i := 731) (by decide +kernel), List.mem_of_getElem? (i := 872) (by decide +kernel), List.mem_of_getElem? (i := 873) (by decide +kernel)⟩
def lw_privs_1 : List (MethodName × Nat) := [(⟨"java/lang/Throwable", "fillInStackTrace", "(I)Ljava/lang/Throwable;"⟩, 6), (⟨"GridInverter$Line", "islandVoltage", "(I)I"⟩, 9), (⟨"GridInverter$Line", "islandFrequency", "(I)I"⟩, 9), (⟨"GridInverter$Simulation", "protect", "(I)V"⟩, 6), (⟨"GridInverter$Simulation", "trip", "(I)V"⟩, 6), (⟨"GridInverter$Simulation", "prepare", "()V"⟩, 6), (⟨"GridInverter$Log", "isKept", "(I)Z"⟩, 3), (⟨"GridInverter", "ticksToDetect", "(IIII)I"⟩, 3), (⟨"GridInverterModel", "becomeIsland", "(III)V"⟩, 7), (⟨"GridInverterModel", "note", "(I)V"⟩, 7), (⟨"GridInverterModel", "tick", "()V"⟩, 7), (⟨"GridInverterModel", "feedLine", "()V"⟩, 7), (⟨"GridInverterModel", "follow", "()V"⟩, 7), (⟨"GridInverterModel", "run", "()V"⟩, 7), (⟨"GridInverterModel", "hasLock", "()Z"⟩, 7), (⟨"GridInverterModel", "trip", "(I)V"⟩, 7)]
theorem lw_r1 : ∀ q ∈ lw_privs_1, lw_okq q := List.forall_mem_cons.mpr ⟨lw_p0, List.forall_mem_cons.mpr ⟨lw_p1, List.forall_mem_cons.mpr ⟨lw_p2, List.forall_mem_cons.mpr ⟨lw_p3, List.forall_mem_cons.mpr ⟨lw_p4, List.forall_mem_cons.mpr ⟨lw_p5, List.forall_mem_cons.mpr ⟨lw_p6, List.forall_mem_cons.mpr ⟨lw_p7, List.forall_mem_cons.mpr ⟨lw_p8, List.forall_mem_cons.mpr ⟨lw_p9, List.forall_mem_cons.mpr ⟨lw_p10, List.forall_mem_cons.mpr ⟨lw_p11, List.forall_mem_cons.mpr ⟨lw_p12, List.forall_mem_cons.mpr ⟨lw_p13, List.forall_mem_cons.mpr ⟨lw_p14, List.forall_mem_cons.mpr ⟨lw_p15, fun _ h => absurd h List.not_mem_nil⟩⟩⟩⟩⟩⟩⟩⟩⟩⟩⟩⟩⟩⟩⟩⟩
theorem lw_p16 : lw_okq (⟨"GridInverterModel", "isViolated", "(I)Z"⟩, 7) := ⟨⟨by decide +kernel, by decide +kernel⟩, List.mem_of_getElem? (i := 731) (by decide +kernel), List.mem_of_getElem? (i := 876) (by decide +kernel), List.mem_of_getElem? (i := 877) (by decide +kernel)⟩
theorem lw_p17 : lw_okq (⟨"GridInverterModel", "await", "()V"⟩, 7) := ⟨⟨by decide +kernel, by decide +kernel⟩, List.mem_of_getElem? (i := 731) (by decide +kernel), List.mem_of_getElem? (i := 880) (by decide +kernel), List.mem_of_getElem? (i := 881) (by decide +kernel)⟩
theorem lw_p18 : lw_okq (⟨"GridInverterModel", "tryIsland", "(IIII)I"⟩, 7) := ⟨⟨by decide +kernel, by decide +kernel⟩, List.mem_of_getElem? (i := 731) (by decide +kernel), List.mem_of_getElem? (i := 920) (by decide +kernel), List.mem_of_getElem? (i := 921) (by decide +kernel)⟩
theorem lw_p19 : lw_okq (⟨"GridInverterModel", "putAside", "()V"⟩, 7) := ⟨⟨by decide +kernel, by decide +kernel⟩, List.mem_of_getElem? (i := 731) (by decide +kernel), List.mem_of_getElem? (i := 924) (by decide +kernel), List.mem_of_getElem? (i := 925) (by decide +kernel)⟩
theorem lw_p20 : lw_okq (⟨"GridInverterModel", "putBack", "()V"⟩, 7) := ⟨⟨by decide +kernel, by decide +kernel⟩, List.mem_of_getElem? (i := 731) (by decide +kernel), List.mem_of_getElem? (i := 928) (by decide +kernel), List.mem_of_getElem? (i := 929) (by decide +kernel)⟩
def lw_privs_2 : List (MethodName × Nat) := [(⟨"GridInverterModel", "isViolated", "(I)Z"⟩, 7), (⟨"GridInverterModel", "await", "()V"⟩, 7), (⟨"GridInverterModel", "tryIsland", "(IIII)I"⟩, 7), (⟨"GridInverterModel", "putAside", "()V"⟩, 7), (⟨"GridInverterModel", "putBack", "()V"⟩, 7)]
theorem lw_r2 : ∀ q ∈ lw_privs_2, lw_okq q := List.forall_mem_cons.mpr ⟨lw_p16, List.forall_mem_cons.mpr ⟨lw_p17, List.forall_mem_cons.mpr ⟨lw_p18, List.forall_mem_cons.mpr ⟨lw_p19, List.forall_mem_cons.mpr ⟨lw_p20, fun _ h => absurd h List.not_mem_nil⟩⟩⟩⟩⟩
def lw_privs : List (MethodName × Nat) := lw_privs_1 ++ (lw_privs_2)
def lw_tbl : List Cond := k2_sels lw_privs ++ tables_1
theorem lw_privs_ok : ∀ q ∈ lw_privs, lw_okq q := by
  show ∀ q ∈ lw_privs_1 ++ (lw_privs_2), lw_okq q
  exact List.forall_mem_append.mpr ⟨lw_r1, lw_r2⟩
/-- the streams that the claim lets the run draw from -/
abbrev lw_cs : List Choice := [Jvm.Choice.named "NaN.bits"]
theorem lw_bits : nanBits ∈ lw_cs := by first | decide | exact List.mem_cons_self | simp [lw_cs, nanBits]
end
section
/-! ===== BEGIN words of one list among another's, by their places ===== -/
theorem goodIn_r {big : List Cond} (ws : List Cond) (ps : List Nat) (hp : ws = ps.filterMap (fun i => big[i]?)) (h : ws.all goodWord = true) : GoodIn big ws := by
  intro w hw
  have h1 := List.all_eq_true.mp h w hw
  rw [hp] at hw
  obtain ⟨i, -, hi⟩ := List.mem_filterMap.mp hw
  have hm : w ∈ big := by first | exact List.mem_of_getElem? hi | exact List.getElem?_mem hi
  exact ⟨hm, good_of_word h1⟩
theorem goodIn_app {big a b : List Cond} (ha : GoodIn big a) (hb : GoodIn big b) : GoodIn big (a ++ b) := fun w h => (List.mem_append.mp h).elim (ha w) (hb w)
theorem goodIn_ca {big a b : List Cond} {c : Cond} (ha : GoodIn big (c :: a)) (hb : GoodIn big b) : GoodIn big (c :: (a ++ b)) := fun w h => (List.mem_cons.mp h).elim (fun e => ha w (List.mem_cons.mpr (Or.inl e))) (fun h => (List.mem_append.mp h).elim (fun h => ha w (List.mem_cons.mpr (Or.inr h))) (hb w))
theorem goodIn_sub {big ws : List Cond} (hm : ∀ w ∈ ws, w ∈ big) (h : ws.all goodWord = true) : GoodIn big ws := fun w hw => ⟨hm w hw, good_of_word (List.all_eq_true.mp h w hw)⟩
/-! ===== END ===== -/

/-! ===== BEGIN exceptions that leave a method, and their catching by the caller (launches without stack traces) ===== -/
section VXA
/-! The laws vx_back, vx_callV, vx_callS, vx_callSW, vx_throw0, vx_throwS follow proofs of the library, with one case more: JvmDerived/Free/Laws.lean (Back.of_free), Shelf42/LK1.lean (callV, callS), Shelf/KitTraced.lean (throwNew0V, throwNewS). -/
/-- where a method has thrown q: the class by its name, the cell, what was written, the world -/
def vx_T (XC : String → State → State → Prop) (st : State) (q : Addr) (t : State) (mc ms : Nat) (free : Addr → Prop) : Prop :=
  ∃ (E : String) (ce : Cell) (L : List Loc), XC E st t ∧ t.heap[q]? = some ce ∧ ce.vm = .none ∧ st.vm.findClass E = some ce.cls ∧ st.WarmedH t.vm ∧ st.sameButNew ({ t with vm := st.vm } : State) L mc ms ∧ ∀ z ∈ L, free z.base
def vx_Q (Qc : Array Value → State → Outcome → State → Prop) (XC : String → State → State → Prop) (mc ms : Nat) (free : Addr → Prop) : Array Value → State → Outcome → State → Prop := fun a st o t =>
  (Qc a st o t ∧ ∃ L, FrameEnd st o t L mc ms ∧ ∀ q ∈ L, free q.base) ∨ ∃ q, o = .threw q ∧ vx_T XC st q t mc ms free
/-- a callee that returns or throws -/
def vx_Met (l : Launch) (y : MethodName) (ws : List Cond) (rm : Room) (Pc : Array Value → State → Prop) (Qc : Array Value → State → Outcome → State → Prop) (XC : String → State → State → Prop) (mc ms : Nat) (free : Addr → Prop) : Prop :=
  MetFree l y (headSpec ws rm) Pc (fun _ _ _ _ _ => True) (vx_Q Qc XC mc ms free)
def vx_Post (XC : String → State → State → Prop) (mc ms : Nat) (free : Addr → Prop) : Pt → Array Value → Addr → Pt → Prop := fun A a q B =>
  ∃ (g : JFrame) (mk : MethodId) (t : State) (L : List Loc) (E : String) (ce : Cell), B.U.heap = t.heap ∧ B.U.vm = t.vm ∧ XC E (A.U.calling g mk a) t ∧ t.heap[q]? = some ce ∧ ce.vm = .none ∧ A.U.vm.findClass E = some ce.cls ∧ B.locs = A.locs ++ L ∧ (∀ z ∈ L, free z.base) ∧ B.cells = A.cells + mc ∧ B.slots = A.slots + ms
def vx_Back (l : Launch) (R : Room) (p : Program) (e : Env) (below : List Frame) (s : State) (sargs : Array Value) (y : MethodName) (len W9 : Nat)
    (Pre : Pt → Array Value → Prop) (Post : Pt → Array Value → Option Value → Pt → Prop) (PostX : Pt → Array Value → Addr → Pt → Prop) : Prop :=
  ∀ (m : MethodId) (meth : Method) (c : Code) (A : Pt) (g : JFrame) (ig : Instr) (mk : MethodId) (a : Array Value),
    Stand p l e R s m sargs below meth c A.U A.locs A.cells A.slots → g.method = m → g.locals.size = c.maxLocals → decode c.code g.pc = .ok (ig, len) →
    2 * g.monitorRoom + (g.stack.map fun v => v.category).sum ≤ W9 → A.U.methodNamed? y = some mk → Pre A a →
    (∃ (v : Option Value) (B : Pt), Stand p l e R s m sargs below meth c B.U B.locs B.cells B.slots ∧ Post A a v B ∧
      Steps p.tables e below (doInvoke e (A.U.setTop g) [] mk a).1 (B.U.setTop { g with pc := g.pc + len, stack := v.toList ++ g.stack })) ∨
    (∃ (q : Addr) (B : Pt), Stand p l e R s m sargs below meth c B.U B.locs B.cells B.slots ∧ PostX A a q B ∧
      Steps p.tables e below (doInvoke e (A.U.setTop g) [] mk a).1 ((B.U.setTop g).pushFrame (.throwing q)))
section Payer
variable {l : Launch} {R : Room} {p : Program} {e : Env} {below : List Frame} {s : State} {sargs : Array Value} {y : MethodName} {len W9 : Nat}
theorem vx_back {ws : List Cond} {rm : Room} {Pc : Array Value → State → Prop} {Qc : Array Value → State → Outcome → State → Prop} {XC : String → State → State → Prop} {mc ms : Nat} {free : Addr → Prop} {bytes : ByteArray} {maxL : Nat} {ret : Option FieldType}
    (hM : vx_Met l y ws rm Pc Qc XC mc ms free) (hblind : FrameBlind Pc) (hrc : rm.cells = mc) (hrs : rm.slots = ms)
    (hframes : rm.frames + 1 ≤ R.frames) (hlocals : W9 + (maxL + 11) + rm.locals ≤ R.locals)
    (hws : ∀ w ∈ ws, ∀ a' U, s.WarmedH U.vm → w.before a' U = true) (hcode : Cond.code y bytes maxL ret ∈ ws) (hinit : ∀ a' U, s.WarmedH U.vm → (Cond.initialized y.cls).before a' U = true) :
    vx_Back l R p e below s sargs y len W9 (PreOf R mc ms Pc) (PostOf Qc mc ms free) (vx_Post XC mc ms free) := by
  intro m meth c A g ig mk a X hg hsize hdg hW hn hp
  have h1 : (headSpec ws rm).pre.before a A.U = true := atoms_intro fun w hw => hws w hw _ _ X.warmed
  have h2 : (Cond.code y bytes maxL ret).before a A.U = true := hws _ hcode _ _ X.warmed
  have h3 : (Cond.initialized y.cls).before a A.U = true := hinit _ _ X.warmed
  have h4 : A.cells + (headSpec ws rm).room.cells ≤ R.cells := by rw [show (headSpec ws rm).room.cells = mc from hrc]; exact hp.1
  have h5 : A.slots + (headSpec ws rm).room.slots ≤ R.slots := by rw [show (headSpec ws rm).room.slots = ms from hrs]; exact hp.2.1
  have hPc : Pc a (A.U.calling g mk a) := hblind _ _ _ _ hp.2.2
  obtain ⟨U, Ls, c0, s0⟩ := A
  dsimp only [Pt.U, Pt.locs, Pt.cells, Pt.slots] at h1 h2 h3 h4 h5 X hn hPc ⊢
  obtain ⟨methY, cY, hmY, hcY, -, hlY, -, -, -, -⟩ := Cond.code_spec hn h2
  obtain ⟨kY, hkY, -⟩ := className_of_methodNamed hn
  have hinitY : kY.init = .initialized := Cond.initialized_spec (findClass_of_methodNamed hn) hkY h3
  have h : At U g.method c below := by rw [hg]; exact X.here
  have hlocals9 : W9 + (maxL + 11) + (headSpec ws rm).room.locals ≤ R.locals := hlocals
  have happ : (headSpec ws rm).appliesLoose y e.platform (U.calling g mk a) = true :=
    Spec.appliesLoose_calling (g := g) h hdg hn hkY hinitY
      (X.room_calling (g := g) (R' := (headSpec ws rm).room) hsize hmY hcY hframes (by rw [hlY]; omega) h4 h5) h1
  obtain ⟨mid, hmid⟩ := h.above
  have hfr : (U.setTop g).frames = (.java g :: mid) ++ below := by rw [State.frames_setTop' g h.top, hmid]; rfl
  obtain ⟨o, s₂, hsteps, -, hend, hq⟩ := Steps.callFree hM p X.admits X.cas X.clock (acts := []) hfr happ hPc trivial
  have hq' : vx_Q Qc XC mc ms free a (U.calling g mk a) o s₂ := hq
  rw [State.frames_setTop' g h.top] at hend
  obtain ⟨g₀, hg0⟩ := Option.isSome_iff_exists.mp h.top
  obtain ⟨r, hr⟩ := State.topJava?_eq_some.mp hg0
  have hr' : (({ U with heap := s₂.heap, slotsUsed := s₂.slotsUsed } : State).setVm s₂.vm).frames = .java g₀ :: r := hr
  rcases hq' with ⟨hqc, L, hfe, hL⟩ | ⟨q, rfl, E, ce, L, hx, hce, hcv, hcl, hW₂, hsm, hL⟩
  · obtain ⟨⟨v, rfl⟩, hW₂, e2, q2, q3, q4, q5, q6⟩ := id hfe
    have e3 : s₂ = ({ (U.calling g mk a).setFrames s₂.frames with heap := s₂.heap, slotsUsed := s₂.slotsUsed } : State).setVm s₂.vm := by
      have : s₂ = ({ s₂ with vm := (U.calling g mk a).vm } : State).setVm s₂.vm := rfl
      rw [e2] at this
      exact this
    obtain ⟨c₂, i₂, len₂, hc₂, hd₂, hf₂⟩ := hend
    have hW' : U.WarmedH s₂.vm := hW₂
    have hcc : c₂ = c := by
      have h1 : s₂.code? g.method = U.code? g.method := by
        rw [State.code?_eq, State.code?_eq, hW'.alike.method?]
      exact Option.some.inj (hc₂.symm.trans (h1.trans h.code))
    subst hcc
    have hlen : len₂ = len := by rw [hdg] at hd₂; cases hd₂; rfl
    subst hlen
    have hs₂ : s₂ = (({ U with heap := s₂.heap, slotsUsed := s₂.slotsUsed } : State).setVm s₂.vm).setTop { g with pc := g.pc + len₂, stack := v.toList ++ g.stack } := by
      refine e3.trans ?_
      rw [hf₂, State.calling_eq h.top, State.setFrames_setFrames, State.setTop_of_frames _ hr', hr]
      rfl
    have hsame : U.sameButNew ({ U with heap := s₂.heap, slotsUsed := s₂.slotsUsed } : State) L mc ms := by
      refine ⟨?_, q2, q3, q4, q5, q6⟩
      obtain ⟨t, ht, -⟩ := State.frames_cons hr
      show ({ U with heap := s₂.heap, slotsUsed := s₂.slotsUsed } : State) = { U.setFrames U.frames with heap := s₂.heap, slotsUsed := s₂.slotsUsed }
      rw [State.setFrames_self ht]
    subst hg
    refine Or.inl ⟨v, ⟨(({ U with heap := s₂.heap, slotsUsed := s₂.slotsUsed } : State).setVm s₂.vm), Ls ++ L, c0 + mc, s0 + ms⟩,
      ⟨X.admits, X.cas, X.clock, X.frames, X.room, X.hears, X.method, X.code, (X.here.setHeapUsed s₂.heap s₂.slotsUsed).setVm hW'.alike, X.tail, State.WarmedH.trans X.warmed hW', X.limits, X.bytes, X.same.trans (hsame.setVm s.vm)⟩,
      ⟨g, mk, s₂, L, rfl, rfl, hqc, rfl, hL, rfl, rfl⟩, ?_⟩
    show Steps p.tables e below _ ((({ U with heap := s₂.heap, slotsUsed := s₂.slotsUsed } : State).setVm s₂.vm).setTop { g with pc := g.pc + len₂, stack := v.toList ++ g.stack })
    rw [← hs₂]
    exact hsteps
  · obtain ⟨e2, q2, q3, q4, q5, q6⟩ := id hsm
    have e3 : s₂ = ({ (U.calling g mk a).setFrames s₂.frames with heap := s₂.heap, slotsUsed := s₂.slotsUsed } : State).setVm s₂.vm := by
      have : s₂ = ({ s₂ with vm := (U.calling g mk a).vm } : State).setVm s₂.vm := rfl
      rw [e2] at this
      exact this
    have hf₂ : s₂.frames = .throwing q :: .java g :: U.frames.tail := hend
    have hW' : U.WarmedH s₂.vm := hW₂
    have hs₂ : s₂ = ((({ U with heap := s₂.heap, slotsUsed := s₂.slotsUsed } : State).setVm s₂.vm).setTop g).pushFrame (.throwing q) := by
      refine e3.trans ?_
      rw [hf₂, State.calling_eq h.top, State.setFrames_setFrames, State.pushFrame, State.frames_setTop _ hr', State.setTop_of_frames _ hr', State.setFrames_setFrames, hr]
      rfl
    have hsame : U.sameButNew ({ U with heap := s₂.heap, slotsUsed := s₂.slotsUsed } : State) L mc ms := by
      refine ⟨?_, q2, q3, q4, q5, q6⟩
      obtain ⟨t, ht, -⟩ := State.frames_cons hr
      show ({ U with heap := s₂.heap, slotsUsed := s₂.slotsUsed } : State) = { U.setFrames U.frames with heap := s₂.heap, slotsUsed := s₂.slotsUsed }
      rw [State.setFrames_self ht]
    subst hg
    refine Or.inr ⟨q, ⟨(({ U with heap := s₂.heap, slotsUsed := s₂.slotsUsed } : State).setVm s₂.vm), Ls ++ L, c0 + mc, s0 + ms⟩,
      ⟨X.admits, X.cas, X.clock, X.frames, X.room, X.hears, X.method, X.code, (X.here.setHeapUsed s₂.heap s₂.slotsUsed).setVm hW'.alike, X.tail, State.WarmedH.trans X.warmed hW', X.limits, X.bytes, X.same.trans (hsame.setVm s.vm)⟩,
      ⟨g, mk, s₂, L, E, ce, rfl, rfl, hx, hce, hcv, hcl, rfl, hL, rfl, rfl⟩, ?_⟩
    show Steps p.tables e below _ (((({ U with heap := s₂.heap, slotsUsed := s₂.slotsUsed } : State).setVm s₂.vm).setTop g).pushFrame (.throwing q))
    rw [← hs₂]
    exact hsteps
end Payer
section Calls
variable {p : Program} {l : Launch} {e : Env} {R : Room} {s : State} {m : MethodId} {args : Array Value} {below : List Frame} {meth : Method} {c : Code} {T : State} {locs : List Loc} {cells slots : Nat}
theorem vx_callV (X : Stand p l e R s m args below meth c T locs cells slots) (hexec : p.tables.exec = Jvm.exec) {own C : String} {index : Nat} {y : MethodName} {bytes : ByteArray} {maxL : Nat} {ret : Option FieldType}
    (hown : s.vm.findClass own = some m.cls) (hlink : (Cond.methodLink own index y).before args s = true) (hinst : (Cond.instanceMethod y).before args s = true) (hsel : (Cond.selects C y y).before args s = true)
    (hcode : (Cond.code y bytes maxL ret).before args s = true) (hy : y.cls ≠ "java/lang/invoke/MethodHandle" ∧ y.cls ≠ "java/lang/invoke/VarHandle")
    {W9 : Nat} {Pre : Pt → Array Value → Prop} {Post : Pt → Array Value → Option Value → Pt → Prop} {PostX : Pt → Array Value → Addr → Pt → Prop} (hK : vx_Back l R p e below s args y 3 W9 Pre Post PostX)
    {b : Addr} {cellB : Cell} (hcell : T.heap[b]? = some cellB) (hobj : cellB.vm.isStatics = false) (hcls : s.vm.findClass C = some cellB.cls)
    {g : JFrame} (hg : g.method = m) (hsize : g.locals.size = c.maxLocals) {argsL rest : List Value} (hlen : ∀ sig, parseMethodDescriptor y.desc = some sig → argsL.length = sig.parameters.length)
    (hstack : g.stack = argsL.reverse ++ .ref b :: rest) (hW : 2 * g.monitorRoom + (rest.map fun v => v.category).sum ≤ W9) (hdg : decode c.code g.pc = .ok (.invokevirtual index, 3))
    (hpre : ∀ vm₁, s.WarmedH vm₁ → Pre ⟨T.setVm vm₁, locs, cells, slots⟩ (Value.ref b :: argsL).toArray) :
    (∃ (v : Option Value) (vm₁ : Vm) (B : Pt), s.WarmedH vm₁ ∧ Stand p l e R s m args below meth c B.U B.locs B.cells B.slots ∧ Post ⟨T.setVm vm₁, locs, cells, slots⟩ (Value.ref b :: argsL).toArray v B ∧
      ∀ target, Steps p.tables e below (B.U.setTop { g with pc := g.pc + 3, stack := v.toList ++ rest }) target → Steps p.tables e below (T.setTop g) target) ∨
    (∃ (q : Addr) (vm₁ : Vm) (B : Pt), s.WarmedH vm₁ ∧ Stand p l e R s m args below meth c B.U B.locs B.cells B.slots ∧ PostX ⟨T.setVm vm₁, locs, cells, slots⟩ (Value.ref b :: argsL).toArray q B ∧
      Steps p.tables e below (T.setTop g) ((B.U.setTop { g with stack := rest }).pushFrame (.throwing q))) := by
  obtain ⟨mk, methM, hnamed, hmethM, hstM, habM⟩ := Cond.instanceMethod_spec hinst
  obtain ⟨methM', cM, hmethM', -, -, -, -, -, -, hsigM⟩ := Cond.code_spec hnamed hcode
  cases hmethM.symm.trans hmethM'
  obtain ⟨c2, r2, m2, q1, q2, q3, q4, kP, hkP, hkPi⟩ := Cond.selects_spec hsel
  cases hcls.symm.trans q1
  cases (State.methodFound?_of_named hnamed hy).symm.trans q2
  cases hnamed.symm.trans q3
  have hselP : selectMethod e.platform s.vm cellB.cls mk = .method mk := by rw [Launch.admits_selectMethod X.admits]; exact q4
  obtain ⟨vm₁, X₁, hstep₁⟩ := X.invokevirtual hexec hown hlink hnamed hmethM hstM hkP hkPi hy (a := b) (cell := cellB) hcell
    (fun z h => by rw [h] at hobj; cases hobj) hselP hmethM habM hkP hkPi (g := g) hg (argsL := argsL) (rest := rest) (hlen _ hsigM) hstack hdg
  rcases hK m meth c ⟨T.setVm vm₁, locs, cells, slots⟩ { g with stack := rest } (.invokevirtual index) mk (Value.ref b :: argsL).toArray X₁ hg hsize hdg hW (X₁.named hnamed) (hpre vm₁ X₁.warmed) with ⟨v, B, X', hpost, hsteps⟩ | ⟨q, B, X', hpost, hsteps⟩
  · exact Or.inl ⟨v, vm₁, B, X₁.warmed, X', hpost, fun target h => hstep₁ _ fun acts => by rw [doInvoke_state]; exact hsteps.trans h⟩
  · exact Or.inr ⟨q, vm₁, B, X₁.warmed, X', hpost, hstep₁ _ fun acts => by rw [doInvoke_state]; exact hsteps⟩
theorem vx_callS (X : Stand p l e R s m args below meth c T locs cells slots) (hexec : p.tables.exec = Jvm.exec) {own : String} {index : Nat} {y : MethodName} {bytes : ByteArray} {maxL : Nat} {ret : Option FieldType}
    (hown : s.vm.findClass own = some m.cls) (hlink : (Cond.methodLink own index y).before args s = true) (hstat : (Cond.static y).before args s = true) (hinit : (Cond.initialized y.cls).before args s = true)
    (hcode : (Cond.code y bytes maxL ret).before args s = true) (hy : y.cls ≠ "java/lang/invoke/MethodHandle" ∧ y.cls ≠ "java/lang/invoke/VarHandle")
    {W9 : Nat} {Pre : Pt → Array Value → Prop} {Post : Pt → Array Value → Option Value → Pt → Prop} {PostX : Pt → Array Value → Addr → Pt → Prop} (hK : vx_Back l R p e below s args y 3 W9 Pre Post PostX)
    {g : JFrame} (hg : g.method = m) (hsize : g.locals.size = c.maxLocals) {argsL rest : List Value} (hlen : ∀ sig, parseMethodDescriptor y.desc = some sig → argsL.length = sig.parameters.length)
    (hstack : g.stack = argsL.reverse ++ rest) (hW : 2 * g.monitorRoom + (rest.map fun v => v.category).sum ≤ W9) (hdg : decode c.code g.pc = .ok (.invokestatic index, 3))
    (hpre : ∀ vm₁, s.WarmedH vm₁ → Pre ⟨T.setVm vm₁, locs, cells, slots⟩ argsL.toArray) :
    (∃ (v : Option Value) (vm₁ : Vm) (B : Pt), s.WarmedH vm₁ ∧ Stand p l e R s m args below meth c B.U B.locs B.cells B.slots ∧ Post ⟨T.setVm vm₁, locs, cells, slots⟩ argsL.toArray v B ∧
      ∀ target, Steps p.tables e below (B.U.setTop { g with pc := g.pc + 3, stack := v.toList ++ rest }) target → Steps p.tables e below (T.setTop g) target) ∨
    (∃ (q : Addr) (vm₁ : Vm) (B : Pt), s.WarmedH vm₁ ∧ Stand p l e R s m args below meth c B.U B.locs B.cells B.slots ∧ PostX ⟨T.setVm vm₁, locs, cells, slots⟩ argsL.toArray q B ∧
      Steps p.tables e below (T.setTop g) ((B.U.setTop { g with stack := rest }).pushFrame (.throwing q))) := by
  obtain ⟨mk, hnamed⟩ := Cond.code_named hcode
  obtain ⟨methM, cM, hmethM, -, -, -, -, -, -, hsigM⟩ := Cond.code_spec hnamed hcode
  have hstatic : methM.isStatic = true := Cond.static_spec hnamed hmethM hstat
  obtain ⟨kP, hkP, -⟩ := className_of_methodNamed hnamed
  have hinitP : kP.init = .initialized := Cond.initialized_spec (findClass_of_methodNamed hnamed) hkP hinit
  obtain ⟨vm₁, X₁, hstep₁⟩ := X.invokestatic hexec hown hlink hnamed hmethM hstatic hkP hinitP hy (g := g) hg (argsL := argsL) (rest := rest) (hlen _ hsigM) hstack hdg
  rcases hK m meth c ⟨T.setVm vm₁, locs, cells, slots⟩ { g with stack := rest } (.invokestatic index) mk argsL.toArray X₁ hg hsize hdg hW (X₁.named hnamed) (hpre vm₁ X₁.warmed) with ⟨v, B, X', hpost, hsteps⟩ | ⟨q, B, X', hpost, hsteps⟩
  · exact Or.inl ⟨v, vm₁, B, X₁.warmed, X', hpost, fun target h => hstep₁ _ fun acts => by rw [doInvoke_state]; exact hsteps.trans h⟩
  · exact Or.inr ⟨q, vm₁, B, X₁.warmed, X', hpost, hstep₁ _ fun acts => by rw [doInvoke_state]; exact hsteps⟩
end Calls
theorem vx_cls {s : State} {T : State} {vm₁ : Vm} {E : String} {k : ClassId} (hW : s.WarmedH vm₁) (h : (T.setVm vm₁).vm.findClass E = some k) : s.vm.findClass E = some k := by
  have h1 : vm₁.findClass E = some k := h
  rw [hW.alike.findClass] at h1
  exact h1
/-- the method's frame g, with q thrown over it -/
def vx_W (p : Program) (l : Launch) (e : Env) (R : Room) (s : State) (m : MethodId) (args : Array Value) (below : List Frame) (meth : Method) (c : Code) (H : Heap) (locs : List Loc) (cells slots : Nat) (Q : State → Prop) (g : JFrame) (q : Addr) : Prop :=
  ∀ T : State, T.heap = H → Stand p l e R s m args below meth c T locs cells slots → ∃ t, Steps p.tables e below ((T.setTop g).pushFrame (.throwing q)) t ∧ Q t
def vx_Run (p : Program) (l : Launch) (e : Env) (R : Room) (s : State) (m : MethodId) (args : Array Value) (below : List Frame) (meth : Method) (c : Code) (H : Heap) (locs : List Loc) (cells slots mc ms : Nat) (g : JFrame) (rest : List Value) (Qa : State → Outcome → State → Prop) (XC : String → State → State → Prop) (free : Addr → Prop) : Prop :=
  ∀ T : State, T.heap = H → Stand p l e R s m args below meth c T locs cells slots →
    (∃ (v : Option Value) (st₀ t T' : State) (L : List Loc), st₀.heap = H ∧ Stand p l e R s m args below meth c T' (locs ++ L) (cells + mc) (slots + ms) ∧ (∀ q ∈ L, free q.base) ∧ T'.heap = t.heap ∧ T'.vm = t.vm ∧ Qa st₀ (.returned v) t ∧
      Goes p e below T g T' { g with pc := g.pc + 3, stack := v.toList ++ rest }) ∨
    (∃ (q : Addr) (st₀ t T' : State) (L : List Loc) (E : String) (ce : Cell), st₀.heap = H ∧ Stand p l e R s m args below meth c T' (locs ++ L) (cells + mc) (slots + ms) ∧ (∀ z ∈ L, free z.base) ∧ T'.heap = t.heap ∧ T'.vm = t.vm ∧ XC E st₀ t ∧ t.heap[q]? = some ce ∧ ce.vm = .none ∧ s.vm.findClass E = some ce.cls ∧
      Steps p.tables e below (T.setTop g) ((T'.setTop { g with stack := rest }).pushFrame (.throwing q)))
def vx_X {S : Type} (px : S → Prop) (B : String → S → State → Prop) (A : Nat → Prop) : String → State → State → Prop := fun E st t => ∃ u : S, px u ∧ B E u t ∧ va_F A st t
section Runs
variable {p : Program} {l : Launch} {e : Env} {R : Room} {s : State} {m : MethodId} {args : Array Value} {below : List Frame} {meth : Method} {c : Code} {H : Heap} {locs : List Loc} {cells slots : Nat}
variable {y : MethodName} {bytes cc : ByteArray} {maxL nL mc ms n index : Nat} {ret : Option FieldType} {ws : List Cond} {rm : Room} {Pc : Array Value → State → Prop} {Qc : Array Value → State → Outcome → State → Prop} {XC : String → State → State → Prop} {free : Addr → Prop} {Ts : List Cond} {own C : String} {b : Addr} {As rest : List Value} {g : JFrame}
theorem vx_callBack (cb : CallB R s args own index y bytes maxL ret ws rm mc ms n) (hM : vx_Met l y ws rm Pc Qc XC mc ms free) (hbl : FrameBlind Pc) : vx_Back l R p e below s args y 3 8 (PreOf R mc ms Pc) (PostOf Qc mc ms free) (vx_Post XC mc ms free) := by
  obtain ⟨hrc, hrs, hfr, hlo, hws, hcw, -, hini, -⟩ := cb
  exact vx_back (bytes := bytes) (maxL := maxL) (ret := ret) hM hbl hrc hrs hfr hlo hws hcw (fun a' U hW => word_at hW (Or.inl (by first | rfl | simp [Cond.onTables, Cond.keeps, Cond.steady])) hini)
theorem vx_runV (S : CallFix p m c cc nL s args Ts own) (hM : vx_Met l y ws rm Pc Qc XC mc ms free) (cw : CallW R s args own C index y bytes maxL ret ws rm mc ms n) (hp : PreV s H C b Pc As)
    (hg : g.method = m) (hn : As.length = n) (hsize : g.locals.size = nL) (hstack : g.stack = As.reverse ++ .ref b :: rest) (hW : 2 * g.monitorRoom + (rest.map fun v => v.category).sum ≤ 8) (hdg : decode cc g.pc = .ok (.invokevirtual index, 3)) (hf : cells + mc ≤ R.cells ∧ slots + ms ≤ R.slots) :
    vx_Run p l e R s m args below meth c H locs cells slots mc ms g rest (Qc (Value.ref b :: As).toArray) XC free := by
  have hK : vx_Back l R p e below s args y 3 8 (PreOf R mc ms Pc) (PostOf Qc mc ms free) (vx_Post XC mc ms free) := vx_callBack cw.1 hM hp.1
  obtain ⟨⟨-, -, -, -, -, -, hcode, -, hy, hlen, hl⟩, hin, hse⟩ := cw
  obtain ⟨hx, hb, hml, ho, -⟩ := S
  obtain ⟨-, ⟨cellB, hcB, hoB, hclB⟩, hPc⟩ := hp
  intro T hT X
  rcases vx_callV X hx (C := C) (bytes := bytes) (maxL := maxL) (ret := ret) ho hl hin hse hcode hy hK (by rw [hT]; exact hcB) hoB hclB hg (hsize.trans hml.symm) (argsL := As) (rest := rest) (fun sig h => hn.trans (hlen sig h)) hstack hW (by rw [hb]; exact hdg)
    (fun vm₁ hW₁ => ⟨hf.1, hf.2, hPc (T.setVm vm₁) hT hW₁⟩) with ⟨v, vm₁, ⟨U', l2, c2, s2⟩, hW₁, X', ⟨g', mk, t, L, e1, e2, hq, h1, hL, h2, h3⟩, st⟩ | ⟨q, vm₁, ⟨U', l2, c2, s2⟩, hW₁, X', ⟨g', mk, t, L, E, ce, e1, e2, hq, hce, hcv, hcl, h1, hL, h2, h3⟩, st⟩
  · dsimp only [Pt.U, Pt.locs, Pt.cells, Pt.slots] at X' e1 e2 h1 h2 h3 st
    subst h1; subst h2; subst h3
    exact Or.inl ⟨v, (T.setVm vm₁).calling g' mk (Value.ref b :: As).toArray, t, U', L, hT, X', hL, e1, e2, hq, st⟩
  · dsimp only [Pt.U, Pt.locs, Pt.cells, Pt.slots] at X' e1 e2 h1 h2 h3 st hcl
    subst h1; subst h2; subst h3
    exact Or.inr ⟨q, (T.setVm vm₁).calling g' mk (Value.ref b :: As).toArray, t, U', L, E, ce, hT, X', hL, e1, e2, hq, hce, hcv, vx_cls hW₁ hcl, st⟩
theorem vx_runS (S : CallFix p m c cc nL s args Ts own) (hM : vx_Met l y ws rm Pc Qc XC mc ms free) (cw : CallB R s args own index y bytes maxL ret ws rm mc ms n ∧ (Cond.static y).before args s = true) (hp : PreS s H Pc As)
    (hg : g.method = m) (hn : As.length = n) (hsize : g.locals.size = nL) (hstack : g.stack = As.reverse ++ rest) (hW : 2 * g.monitorRoom + (rest.map fun v => v.category).sum ≤ 8) (hdg : decode cc g.pc = .ok (.invokestatic index, 3)) (hf : cells + mc ≤ R.cells ∧ slots + ms ≤ R.slots) :
    vx_Run p l e R s m args below meth c H locs cells slots mc ms g rest (Qc As.toArray) XC free := by
  have hK : vx_Back l R p e below s args y 3 8 (PreOf R mc ms Pc) (PostOf Qc mc ms free) (vx_Post XC mc ms free) := vx_callBack cw.1 hM hp.1
  obtain ⟨⟨-, -, -, -, -, -, hcode, hini, hy, hlen, hl⟩, hstt⟩ := cw
  obtain ⟨hx, hb, hml, ho, -⟩ := S
  intro T hT X
  rcases vx_callS X hx (bytes := bytes) (maxL := maxL) (ret := ret) ho hl hstt hini hcode hy hK hg (hsize.trans hml.symm) (argsL := As) (rest := rest) (fun sig h => hn.trans (hlen sig h)) hstack hW (by rw [hb]; exact hdg)
    (fun vm₁ hW₁ => ⟨hf.1, hf.2, hp.2 (T.setVm vm₁) hT hW₁⟩) with ⟨v, vm₁, ⟨U', l2, c2, s2⟩, hW₁, X', ⟨g', mk, t, L, e1, e2, hq, h1, hL, h2, h3⟩, st⟩ | ⟨q, vm₁, ⟨U', l2, c2, s2⟩, hW₁, X', ⟨g', mk, t, L, E, ce, e1, e2, hq, hce, hcv, hcl, h1, hL, h2, h3⟩, st⟩
  · dsimp only [Pt.U, Pt.locs, Pt.cells, Pt.slots] at X' e1 e2 h1 h2 h3 st
    subst h1; subst h2; subst h3
    exact Or.inl ⟨v, (T.setVm vm₁).calling g' mk As.toArray, t, U', L, hT, X', hL, e1, e2, hq, st⟩
  · dsimp only [Pt.U, Pt.locs, Pt.cells, Pt.slots] at X' e1 e2 h1 h2 h3 st hcl
    subst h1; subst h2; subst h3
    exact Or.inr ⟨q, (T.setVm vm₁).calling g' mk As.toArray, t, U', L, E, ce, hT, X', hL, e1, e2, hq, hce, hcv, vx_cls hW₁ hcl, st⟩
end Runs
section Rows
variable {p : Program} {l : Launch} {e : Env} {R : Room} {s : State} {m : MethodId} {args : Array Value} {below : List Frame} {meth : Method} {c : Code} {H : Heap} {locs : List Loc} {cells slots : Nat} {Q : State → Prop}
variable {mc ms : Nat} {free : Addr → Prop} {A0 A1 : Nat → Prop} {H0 : Heap} {a : Array Value} {pc : Nat} {ls : Array Slot} {st0 rest : List Value}
theorem vx_keep {st₀ t T' : State} {L : List Loc} (h0 : st₀.heap = H) (e1 : T'.heap = t.heap) (hS : va_S A0 H0 H locs) (hA : ∀ q, q < H.size → A1 q → A0 q) (hf : ∀ q, free q → A0 q) (hL : ∀ q ∈ L, free q.base) (hF : va_F A1 st₀ t) :
    H.size ≤ T'.heap.size ∧ (∀ q : Nat, q < H.size → ¬ A1 q → T'.heap[q]? = H[q]?) ∧ va_S A0 H0 T'.heap (locs ++ L) := by
  obtain ⟨hz, hk⟩ := hF
  rw [h0] at hz hk
  exact ⟨by rw [e1]; exact hz, fun q h1 h2 => by rw [e1]; exact hk q h1 h2,
    ⟨Nat.le_trans hS.1 (by rw [e1]; exact hz), fun q h1 h2 => by rw [e1, hk q (Nat.lt_of_lt_of_le h1 hS.1) (fun z => h2 (hA q (Nat.lt_of_lt_of_le h1 hS.1) z))]; exact hS.2.1 q h1 h2, fun q hq => by
      rcases List.mem_append.mp hq with h | h
      · exact hS.2.2 q h
      · exact hf _ (hL q h)⟩⟩
theorem vx_calli {S SX : Type} {post : Int32 → S → Prop} {px : SX → Prop} {B : S → State → Prop} {BX : String → SX → State → Prop} {AX : Nat → Prop} (hr : vx_Run p l e R s m args below meth c H locs cells slots mc ms (F0 m pc ls st0) rest (va_Qi post B A1 a) (vx_X px BX AX) free) (hS : va_S A0 H0 H locs) (hA : ∀ q, q < H.size → A1 q → A0 q) (hf : ∀ q, free q → A0 q) (hAX : ∀ q, q < H.size → AX q → A0 q)
    (kx : ∀ (E : String) (ce : Cell) (q9 : Addr) (u : SX) (t : State) (H1 : Heap) (locs1 : List Loc), t.heap = H1 → s.vm.Alike t.vm → px u → BX E u t → H.size ≤ H1.size → (∀ q : Nat, q < H.size → ¬ AX q → H1[q]? = H[q]?) → va_S A0 H0 H1 locs1 → H1[q9]? = some ce → ce.vm = .none → s.vm.findClass E = some ce.cls → vx_W p l e R s m args below meth c H1 locs1 (cells + mc) (slots + ms) Q (F0 m pc ls rest) q9)
    (kk : ∀ (r : Int32) (u : S) (t : State) (H1 : Heap) (locs1 : List Loc), t.heap = H1 → s.vm.Alike t.vm → post r u → B u t → H.size ≤ H1.size → (∀ q : Nat, q < H.size → ¬ A1 q → H1[q]? = H[q]?) → va_S A0 H0 H1 locs1 → W p l e R s m args below meth c H1 locs1 (cells + mc) (slots + ms) Q (F0 m (pc + 3) ls (.int r :: rest))) : W p l e R s m args below meth c H locs cells slots Q (F0 m pc ls st0) := by
  intro T hT X
  rcases hr T hT X with ⟨v, st₀, t, T', L, h0, X', hL, e1, e2, ⟨⟨r, u, hv, hp, hb⟩, hF⟩, st⟩ | ⟨q, st₀, t, T', L, E, ce, h0, X', hL, e1, e2, ⟨u, hp, hb, hF⟩, hce, hcv, hcl, st⟩
  · cases hv
    obtain ⟨k1, k2, k3⟩ := vx_keep h0 e1 hS hA hf hL hF
    obtain ⟨t2, a1, b1⟩ := kk r u t T'.heap (locs ++ L) e1.symm (by rw [← e2]; exact X'.warmed.alike) hp hb k1 k2 k3 T' rfl X'
    exact ⟨t2, st t2 a1, b1⟩
  · obtain ⟨k1, k2, k3⟩ := vx_keep h0 e1 hS hAX hf hL hF
    obtain ⟨t2, a1, b1⟩ := kx E ce q u t T'.heap (locs ++ L) e1.symm (by rw [← e2]; exact X'.warmed.alike) hp hb k1 k2 k3 (by rw [e1]; exact hce) hcv hcl T' rfl X'
    exact ⟨t2, st.trans a1, b1⟩
theorem vx_calll {S SX : Type} {post : Int64 → S → Prop} {px : SX → Prop} {B : S → State → Prop} {BX : String → SX → State → Prop} {AX : Nat → Prop} (hr : vx_Run p l e R s m args below meth c H locs cells slots mc ms (F0 m pc ls st0) rest (va_Ql post B A1 a) (vx_X px BX AX) free) (hS : va_S A0 H0 H locs) (hA : ∀ q, q < H.size → A1 q → A0 q) (hf : ∀ q, free q → A0 q) (hAX : ∀ q, q < H.size → AX q → A0 q)
    (kx : ∀ (E : String) (ce : Cell) (q9 : Addr) (u : SX) (t : State) (H1 : Heap) (locs1 : List Loc), t.heap = H1 → s.vm.Alike t.vm → px u → BX E u t → H.size ≤ H1.size → (∀ q : Nat, q < H.size → ¬ AX q → H1[q]? = H[q]?) → va_S A0 H0 H1 locs1 → H1[q9]? = some ce → ce.vm = .none → s.vm.findClass E = some ce.cls → vx_W p l e R s m args below meth c H1 locs1 (cells + mc) (slots + ms) Q (F0 m pc ls rest) q9)
    (kk : ∀ (r : Int64) (u : S) (t : State) (H1 : Heap) (locs1 : List Loc), t.heap = H1 → s.vm.Alike t.vm → post r u → B u t → H.size ≤ H1.size → (∀ q : Nat, q < H.size → ¬ A1 q → H1[q]? = H[q]?) → va_S A0 H0 H1 locs1 → W p l e R s m args below meth c H1 locs1 (cells + mc) (slots + ms) Q (F0 m (pc + 3) ls (.long r :: rest))) : W p l e R s m args below meth c H locs cells slots Q (F0 m pc ls st0) := by
  intro T hT X
  rcases hr T hT X with ⟨v, st₀, t, T', L, h0, X', hL, e1, e2, ⟨⟨r, u, hv, hp, hb⟩, hF⟩, st⟩ | ⟨q, st₀, t, T', L, E, ce, h0, X', hL, e1, e2, ⟨u, hp, hb, hF⟩, hce, hcv, hcl, st⟩
  · cases hv
    obtain ⟨k1, k2, k3⟩ := vx_keep h0 e1 hS hA hf hL hF
    obtain ⟨t2, a1, b1⟩ := kk r u t T'.heap (locs ++ L) e1.symm (by rw [← e2]; exact X'.warmed.alike) hp hb k1 k2 k3 T' rfl X'
    exact ⟨t2, st t2 a1, b1⟩
  · obtain ⟨k1, k2, k3⟩ := vx_keep h0 e1 hS hAX hf hL hF
    obtain ⟨t2, a1, b1⟩ := kx E ce q u t T'.heap (locs ++ L) e1.symm (by rw [← e2]; exact X'.warmed.alike) hp hb k1 k2 k3 (by rw [e1]; exact hce) hcv hcl T' rfl X'
    exact ⟨t2, st.trans a1, b1⟩
theorem vx_callf {S SX : Type} {post : UInt32 → S → Prop} {px : SX → Prop} {B : S → State → Prop} {BX : String → SX → State → Prop} {AX : Nat → Prop} (hr : vx_Run p l e R s m args below meth c H locs cells slots mc ms (F0 m pc ls st0) rest (va_Qf post B A1 a) (vx_X px BX AX) free) (hS : va_S A0 H0 H locs) (hA : ∀ q, q < H.size → A1 q → A0 q) (hf : ∀ q, free q → A0 q) (hAX : ∀ q, q < H.size → AX q → A0 q)
    (kx : ∀ (E : String) (ce : Cell) (q9 : Addr) (u : SX) (t : State) (H1 : Heap) (locs1 : List Loc), t.heap = H1 → s.vm.Alike t.vm → px u → BX E u t → H.size ≤ H1.size → (∀ q : Nat, q < H.size → ¬ AX q → H1[q]? = H[q]?) → va_S A0 H0 H1 locs1 → H1[q9]? = some ce → ce.vm = .none → s.vm.findClass E = some ce.cls → vx_W p l e R s m args below meth c H1 locs1 (cells + mc) (slots + ms) Q (F0 m pc ls rest) q9)
    (kk : ∀ (r : UInt32) (u : S) (t : State) (H1 : Heap) (locs1 : List Loc), t.heap = H1 → s.vm.Alike t.vm → post r u → B u t → H.size ≤ H1.size → (∀ q : Nat, q < H.size → ¬ A1 q → H1[q]? = H[q]?) → va_S A0 H0 H1 locs1 → W p l e R s m args below meth c H1 locs1 (cells + mc) (slots + ms) Q (F0 m (pc + 3) ls (.float r :: rest))) : W p l e R s m args below meth c H locs cells slots Q (F0 m pc ls st0) := by
  intro T hT X
  rcases hr T hT X with ⟨v, st₀, t, T', L, h0, X', hL, e1, e2, ⟨⟨r, u, hv, hp, hb⟩, hF⟩, st⟩ | ⟨q, st₀, t, T', L, E, ce, h0, X', hL, e1, e2, ⟨u, hp, hb, hF⟩, hce, hcv, hcl, st⟩
  · cases hv
    obtain ⟨k1, k2, k3⟩ := vx_keep h0 e1 hS hA hf hL hF
    obtain ⟨t2, a1, b1⟩ := kk r u t T'.heap (locs ++ L) e1.symm (by rw [← e2]; exact X'.warmed.alike) hp hb k1 k2 k3 T' rfl X'
    exact ⟨t2, st t2 a1, b1⟩
  · obtain ⟨k1, k2, k3⟩ := vx_keep h0 e1 hS hAX hf hL hF
    obtain ⟨t2, a1, b1⟩ := kx E ce q u t T'.heap (locs ++ L) e1.symm (by rw [← e2]; exact X'.warmed.alike) hp hb k1 k2 k3 (by rw [e1]; exact hce) hcv hcl T' rfl X'
    exact ⟨t2, st.trans a1, b1⟩
theorem vx_calld {S SX : Type} {post : UInt64 → S → Prop} {px : SX → Prop} {B : S → State → Prop} {BX : String → SX → State → Prop} {AX : Nat → Prop} (hr : vx_Run p l e R s m args below meth c H locs cells slots mc ms (F0 m pc ls st0) rest (va_Qd post B A1 a) (vx_X px BX AX) free) (hS : va_S A0 H0 H locs) (hA : ∀ q, q < H.size → A1 q → A0 q) (hf : ∀ q, free q → A0 q) (hAX : ∀ q, q < H.size → AX q → A0 q)
    (kx : ∀ (E : String) (ce : Cell) (q9 : Addr) (u : SX) (t : State) (H1 : Heap) (locs1 : List Loc), t.heap = H1 → s.vm.Alike t.vm → px u → BX E u t → H.size ≤ H1.size → (∀ q : Nat, q < H.size → ¬ AX q → H1[q]? = H[q]?) → va_S A0 H0 H1 locs1 → H1[q9]? = some ce → ce.vm = .none → s.vm.findClass E = some ce.cls → vx_W p l e R s m args below meth c H1 locs1 (cells + mc) (slots + ms) Q (F0 m pc ls rest) q9)
    (kk : ∀ (r : UInt64) (u : S) (t : State) (H1 : Heap) (locs1 : List Loc), t.heap = H1 → s.vm.Alike t.vm → post r u → B u t → H.size ≤ H1.size → (∀ q : Nat, q < H.size → ¬ A1 q → H1[q]? = H[q]?) → va_S A0 H0 H1 locs1 → W p l e R s m args below meth c H1 locs1 (cells + mc) (slots + ms) Q (F0 m (pc + 3) ls (.double r :: rest))) : W p l e R s m args below meth c H locs cells slots Q (F0 m pc ls st0) := by
  intro T hT X
  rcases hr T hT X with ⟨v, st₀, t, T', L, h0, X', hL, e1, e2, ⟨⟨r, u, hv, hp, hb⟩, hF⟩, st⟩ | ⟨q, st₀, t, T', L, E, ce, h0, X', hL, e1, e2, ⟨u, hp, hb, hF⟩, hce, hcv, hcl, st⟩
  · cases hv
    obtain ⟨k1, k2, k3⟩ := vx_keep h0 e1 hS hA hf hL hF
    obtain ⟨t2, a1, b1⟩ := kk r u t T'.heap (locs ++ L) e1.symm (by rw [← e2]; exact X'.warmed.alike) hp hb k1 k2 k3 T' rfl X'
    exact ⟨t2, st t2 a1, b1⟩
  · obtain ⟨k1, k2, k3⟩ := vx_keep h0 e1 hS hAX hf hL hF
    obtain ⟨t2, a1, b1⟩ := kx E ce q u t T'.heap (locs ++ L) e1.symm (by rw [← e2]; exact X'.warmed.alike) hp hb k1 k2 k3 (by rw [e1]; exact hce) hcv hcl T' rfl X'
    exact ⟨t2, st.trans a1, b1⟩
theorem vx_callv {S SX : Type} {post : S → Prop} {px : SX → Prop} {B : S → State → Prop} {BX : String → SX → State → Prop} {AX : Nat → Prop} (hr : vx_Run p l e R s m args below meth c H locs cells slots mc ms (F0 m pc ls st0) rest (va_Qv post B A1 a) (vx_X px BX AX) free) (hS : va_S A0 H0 H locs) (hA : ∀ q, q < H.size → A1 q → A0 q) (hf : ∀ q, free q → A0 q) (hAX : ∀ q, q < H.size → AX q → A0 q)
    (kx : ∀ (E : String) (ce : Cell) (q9 : Addr) (u : SX) (t : State) (H1 : Heap) (locs1 : List Loc), t.heap = H1 → s.vm.Alike t.vm → px u → BX E u t → H.size ≤ H1.size → (∀ q : Nat, q < H.size → ¬ AX q → H1[q]? = H[q]?) → va_S A0 H0 H1 locs1 → H1[q9]? = some ce → ce.vm = .none → s.vm.findClass E = some ce.cls → vx_W p l e R s m args below meth c H1 locs1 (cells + mc) (slots + ms) Q (F0 m pc ls rest) q9)
    (kk : ∀ (u : S) (t : State) (H1 : Heap) (locs1 : List Loc), t.heap = H1 → s.vm.Alike t.vm → post u → B u t → H.size ≤ H1.size → (∀ q : Nat, q < H.size → ¬ A1 q → H1[q]? = H[q]?) → va_S A0 H0 H1 locs1 → W p l e R s m args below meth c H1 locs1 (cells + mc) (slots + ms) Q (F0 m (pc + 3) ls (rest))) : W p l e R s m args below meth c H locs cells slots Q (F0 m pc ls st0) := by
  intro T hT X
  rcases hr T hT X with ⟨v, st₀, t, T', L, h0, X', hL, e1, e2, ⟨⟨u, hv, hp, hb⟩, hF⟩, st⟩ | ⟨q, st₀, t, T', L, E, ce, h0, X', hL, e1, e2, ⟨u, hp, hb, hF⟩, hce, hcv, hcl, st⟩
  · cases hv
    obtain ⟨k1, k2, k3⟩ := vx_keep h0 e1 hS hA hf hL hF
    obtain ⟨t2, a1, b1⟩ := kk u t T'.heap (locs ++ L) e1.symm (by rw [← e2]; exact X'.warmed.alike) hp hb k1 k2 k3 T' rfl X'
    exact ⟨t2, st t2 a1, b1⟩
  · obtain ⟨k1, k2, k3⟩ := vx_keep h0 e1 hS hAX hf hL hF
    obtain ⟨t2, a1, b1⟩ := kx E ce q u t T'.heap (locs ++ L) e1.symm (by rw [← e2]; exact X'.warmed.alike) hp hb k1 k2 k3 (by rw [e1]; exact hce) hcv hcl T' rfl X'
    exact ⟨t2, st.trans a1, b1⟩
/-- caught by the row x of this method's table; the rows ahead don't take it -/
theorem vx_catch {own name : String} {E : String} {ce : Cell} {q : Addr} (hown : s.vm.findClass own = some m.cls) (pre : List ExceptionTableEntry) (x : ExceptionTableEntry) (suf : List ExceptionTableEntry) (hsplit : c.exceptionTable.toList = pre ++ x :: suf)
    (hpass : ∀ z ∈ pre, covers z pc = false ∨ (z.catchType ≠ 0 ∧ ∃ nm : String, (Cond.classLink own z.catchType nm).before args s = true ∧ va_Nc E nm s)) (hx : covers x pc = true) (h0 : x.catchType ≠ 0)
    (hlink : (Cond.classLink own x.catchType name).before args s = true) (hcast : (Cond.castable E name).before args s = true) (hcell : H[q]? = some ce) (hv : ce.vm = .none) (hcl : s.vm.findClass E = some ce.cls)
    (kk : W p l e R s m args below meth c H locs cells slots Q (F0 m x.handlerPc ls [.ref q])) : vx_W p l e R s m args below meth c H locs cells slots Q (F0 m pc ls rest) q := by
  intro T hT X
  have hpl : e.platform.magicAccessors = ({} : Platform).magicAccessors := by rw [X.admits.platform]
  obtain ⟨c3, c4, hc3, hc4, hasg⟩ := Cond.castable_spec hcast
  cases Option.some.inj (hc3.symm.trans hcl)
  obtain ⟨c5, hc5, hcl5⟩ := Cond.classLink_spec hown hlink e.platform hpl
  cases Option.some.inj (hc4.symm.trans hc5)
  obtain ⟨vm', X', st⟩ := X.thenCaughtThrough q (g := F0 m pc ls rest) rfl (Steps.refl _) (by rw [hT]; exact hcell) (by rw [hv]; rfl) (by obtain ⟨k9, h9, -⟩ := Vm.findClass_spec hcl; exact ⟨k9, h9⟩) pre x suf hsplit
    (fun z hz => by
      rcases hpass z hz with h | ⟨hz0, nm, hl1, hn1⟩
      · exact Or.inl h
      · obtain ⟨c6, hc6, hcl6⟩ := Cond.classLink_spec hown hl1 e.platform hpl
        obtain ⟨a8, b8, h1, h2, h3⟩ := hn1
        cases Option.some.inj (h1.symm.trans hcl)
        cases Option.some.inj (h2.symm.trans hc6)
        exact Or.inr ⟨hz0, _, hcl6, h3⟩) hx (Or.inr ⟨h0, c4, hcl5, hasg⟩)
  obtain ⟨t, a1, b1⟩ := kk (T.setVm vm') hT X'
  exact ⟨t, st.trans a1, b1⟩
end Rows
section Ends
variable {p : Program} {l : Launch} {e : Env} {R : Room} {s : State} {m : MethodId} {args : Array Value} {below : List Frame} {meth : Method} {c : Code} {H : Heap} {locs : List Loc} {cells slots : Nat} {Q : State → Prop}
variable {mc ms : Nat} {free : Addr → Prop} {A0 A1 : Nat → Prop} {H0 : Heap} {a : Array Value} {ls : Array Slot} {st0 rest : List Value}
variable {Qc : Array Value → State → Outcome → State → Prop} {XC : String → State → State → Prop}
/-- what a body that may throw owes at its end -/
def vx_MQ (below : List Frame) (Qc : Array Value → State → Outcome → State → Prop) (XC : String → State → State → Prop) (a : Array Value) (s : State) (mc ms : Nat) (free : Addr → Prop) : State → Prop := fun t =>
  ∃ o, t.status = .running ∧ Ended t below o ∧ vx_Q Qc XC mc ms free a s o t
theorem vx_ret {g : JFrame} {mc ms : Nat} (k : W p l e R s m args below meth c H locs cells slots (MQ below Qc args s mc ms free) g) : W p l e R s m args below meth c H locs cells slots (vx_MQ below Qc XC args s mc ms free) g := by
  intro T hT X
  obtain ⟨t, a1, o, b1, b2, b3, b4⟩ := k T hT X
  exact ⟨t, a1, o, b1, b2, Or.inl ⟨b3, b4⟩⟩
/-- not caught here: it goes on to the caller -/
theorem vx_widen {g : JFrame} {q : Addr} {k n : Nat} (h1 : cells ≤ k) (h2 : slots ≤ n) (kk : vx_W p l e R s m args below meth c H locs k n Q g q) : vx_W p l e R s m args below meth c H locs cells slots Q g q := fun T hT X => kk T hT (stand_widen X h1 h2)
theorem vx_out {pc : Nat} {E : String} {ce : Cell} {q : Addr} {mc ms : Nat} (hout : ∀ x ∈ c.exceptionTable.toList, covers x pc = false) (hlocks : meth.locks = false) (hcell : H[q]? = some ce) (hv : ce.vm = .none) (hcl : s.vm.findClass E = some ce.cls)
    (hx : ∀ t : State, t.heap = H → s.vm.Alike t.vm → XC E s t) (hf : ∀ z ∈ locs, free z.base) (hc : cells ≤ mc) (hs : slots ≤ ms) :
    vx_W p l e R s m args below meth c H locs cells slots (vx_MQ below Qc XC args s mc ms free) (F0 m pc ls rest) q := by
  intro T hT X
  obtain ⟨st1, hrun, hend, hW, hsm⟩ := X.leaveThrown q (g := F0 m pc ls rest) rfl rfl rfl hout hlocks
  have hcell9 : (T.setFrames (.throwing q :: below)).heap[q]? = some ce := by
    show T.heap[q]? = some ce
    rw [hT]; exact hcell
  exact ⟨_, st1, .threw q, hrun, hend, Or.inr ⟨q, rfl, E, ce, locs, hx _ hT hW.alike, hcell9, hv, hcl, hW, hsm.mono hc hs, hf⟩⟩
theorem vx_frame {U : State} {k n : Nat} (h : s.sameButNew ({ U with vm := s.vm } : State) locs k n) : s.heap.size ≤ U.heap.size ∧ ∀ q : Nat, q < s.heap.size → (∀ z ∈ locs, z.base ≠ q) → U.heap[q]? = s.heap[q]? := by
  obtain ⟨-, h2, -, -, -, h6⟩ := h
  refine ⟨h2, fun q hq hz => ?_⟩
  obtain ⟨c9, e1, e2, e3, e4⟩ := h6 q _ (Array.getElem?_eq_getElem hq)
  have hs : c9.slots = (s.heap[q]).slots := Array.ext_getElem? fun i => e4 i fun hm => hz _ hm rfl
  have h9 : c9 = s.heap[q] := by
    rw [hs] at e2
    exact e2
  have e5 : U.heap[q]? = some c9 := e1
  rw [e5, h9, Array.getElem?_eq_getElem hq]
/-- the words of a throw but the four that speak of the heap -/
def vx_no (w : Cond) : Bool := decide (w ≠ .isRef (.static Bundle.tN "UNASSIGNED_STACK" Bundle.steD)) && decide (w ≠ .isRef (.static Bundle.tN "SUPPRESSED_SENTINEL" Bundle.listD)) && decide (w ≠ .laysStatic Bundle.tN "UNASSIGNED_STACK" Bundle.steD) && decide (w ≠ .laysStatic Bundle.tN "SUPPRESSED_SENTINEL" Bundle.listD)
def vx_at0 (own : String) (ic : Nat) (X : String) (names : List String) : List Cond := (Bundle.ownAtoms0 own ic X names).filter vx_no
def vx_atS (own : String) (ic : Nat) (X : String) (names : List String) : List Cond := (Bundle.ownAtoms own ic X names).filter vx_no
/-- a word that the tables alone decide, or a good one -/
def vx_ot (w : Cond) : Bool := w.onTables || goodWord w
theorem vx_ot_at {args a' : Array Value} {s U : State} {w : Cond} (hW : s.WarmedH U.vm) (hvm : s.vm = U.vm) (hg : vx_ot w = true) (h : w.before args s = true) : w.before a' U = true := by
  simp only [vx_ot, Bool.or_eq_true] at hg
  rcases hg with hg | hg
  · exact va_tabs hg hvm h
  · exact word_at hW (good_of_word hg) h
/-- a list's words: the good ones out of the method's own list, the others by premises of their own -/
theorem vx_hat {args : Array Value} {s : State} {L B : List Cond} (h1 : ∀ w ∈ L.filter goodWord, w.before args s = true) (h2 : ∀ w ∈ L.filter (fun w => !goodWord w), w ∈ B) (h3 : ∀ w ∈ B, w.before args s = true) : ∀ w ∈ L, w.before args s = true := by
  intro w hw
  by_cases g : goodWord w = true
  · exact h1 w (List.mem_filter.mpr ⟨hw, g⟩)
  · refine h3 w (h2 w (List.mem_filter.mpr ⟨hw, ?_⟩))
    show (!goodWord w) = true
    cases hgw : goodWord w
    · rfl
    · exact absurd hgw g
theorem vx_c {args : Array Value} {s : State} {w : Cond} {B : List Cond} (h : w.before args s = true) (t : ∀ w ∈ B, w.before args s = true) : ∀ w' ∈ w :: B, w'.before args s = true := fun w' h' => (List.mem_cons.mp h').elim (fun e => by rw [e]; exact h) (t w')
theorem vx_n {args : Array Value} {s : State} : ∀ w ∈ ([] : List Cond), w.before args s = true := fun _ h => nomatch h
theorem vx_own {args : Array Value} {s : State} {L : List Cond} (h1 : ∀ w ∈ L.filter vx_no, w.before args s = true)
    (hU : (Cond.isRef (.static Bundle.tN "UNASSIGNED_STACK" Bundle.steD)).before args s = true) (hN : (Cond.isRef (.static Bundle.tN "SUPPRESSED_SENTINEL" Bundle.listD)).before args s = true)
    (lU : (Cond.laysStatic Bundle.tN "UNASSIGNED_STACK" Bundle.steD).before args s = true) (lN : (Cond.laysStatic Bundle.tN "SUPPRESSED_SENTINEL" Bundle.listD).before args s = true) : ∀ w ∈ L, w.before args s = true := by
  intro w hw
  by_cases e1 : w = .isRef (.static Bundle.tN "UNASSIGNED_STACK" Bundle.steD)
  · rw [e1]; exact hU
  · by_cases e2 : w = .isRef (.static Bundle.tN "SUPPRESSED_SENTINEL" Bundle.listD)
    · rw [e2]; exact hN
    · by_cases e3 : w = .laysStatic Bundle.tN "UNASSIGNED_STACK" Bundle.steD
      · rw [e3]; exact lU
      · by_cases e4 : w = .laysStatic Bundle.tN "SUPPRESSED_SENTINEL" Bundle.listD
        · rw [e4]; exact lN
        · exact h1 w (List.mem_filter.mpr ⟨hw, by unfold vx_no; rw [decide_eq_true e1, decide_eq_true e2, decide_eq_true e3, decide_eq_true e4]; rfl⟩)
/-- where a static field lies, its class's statics cell in H -/
def vx_L (C n d : String) (A : Nat → Prop) (U : State) (H : Heap) : Prop := ∃ (c : ClassId) (k : Class) (i : Nat) (f : Field) (a : Nat) (cell : Cell), U.vm.findClass C = some c ∧ U.fieldFound? C n d = some (c, k, i, f) ∧ f.isStatic = true ∧ k.statics = some a ∧ H[a]? = some cell ∧ cell.vm.isStatics = true ∧ cell.cls = c ∧ f.slot < cell.slots.size ∧ k.staticTypes[f.slot]? = some f.type ∧ ¬ A a
theorem vx_L.moved {C n d : String} {A : Nat → Prop} {u U : State} {H : Heap} (hvm : u.vm.Alike U.vm) (h : vx_L C n d A u H) : vx_L C n d A U H := by
  obtain ⟨c, k, i, f, a, cell, h1, h2, h3, h4, h5, h6, h7, h8, h9, h10⟩ := h
  obtain ⟨k', hi', he⟩ := State.fieldFound?_setVm hvm h2
  exact ⟨c, k', i, f, a, cell, by rw [hvm.findClass]; exact h1, hi', h3, by rw [he]; exact h4, h5, h6, h7, h8, by rw [he]; exact h9, h10⟩
theorem vx_L.kept {C n d : String} {A : Nat → Prop} {U : State} {H H1 : Heap} (h : vx_L C n d A U H) (hq : ∀ a : Nat, a < H.size → ¬ A a → H1[a]? = H[a]?) : vx_L C n d A U H1 := by
  obtain ⟨c, k, i, f, a, cell, h1, h2, h3, h4, h5, h6, h7, h8, h9, h10⟩ := h
  exact ⟨c, k, i, f, a, cell, h1, h2, h3, h4, by rw [hq a (Array.getElem?_eq_some_iff.mp h5).1 h10]; exact h5, h6, h7, h8, h9, h10⟩
theorem vx_L.narrow {C n d : String} {A B : Nat → Prop} {U : State} {H : Heap} (h : vx_L C n d A U H) (hAB : ∀ q, B q → A q) : vx_L C n d B U H := by
  obtain ⟨c, k, i, f, a, cell, h1, h2, h3, h4, h5, h6, h7, h8, h9, h10⟩ := h
  exact ⟨c, k, i, f, a, cell, h1, h2, h3, h4, h5, h6, h7, h8, h9, fun z => h10 (hAB _ z)⟩
theorem vx_L.word {C n d : String} {A : Nat → Prop} {s : State} {args : Array Value} (h : vx_L C n d A s s.heap) : (Cond.laysStatic C n d).before args s = true := by
  obtain ⟨c, k, i, f, a, cell, h1, h2, h3, h4, h5, h6, h7, h8, h9, -⟩ := h
  show (Cond.laysStatic C n d).holds args s none s [] = true
  exact Cond.laysStatic_of h1 h2 h3 h4 h5 h6 h7 h8 h9
/-- .. and what it holds: null or some reference -/
def vx_Zq (C n d : String) (A : Nat → Prop) (U : State) (H : Heap) : Prop := va_Zq C n d A U H ∧ vx_L C n d A U H
theorem vx_Zq.moved {C n d : String} {A : Nat → Prop} {u U : State} {H : Heap} (hvm : u.vm.Alike U.vm) (h : vx_Zq C n d A u H) : vx_Zq C n d A U H := ⟨va_Zq.moved hvm h.1, vx_L.moved hvm h.2⟩
theorem vx_Zq.kept {C n d : String} {A : Nat → Prop} {U : State} {H H1 : Heap} (h : vx_Zq C n d A U H) (hq : ∀ a : Nat, a < H.size → ¬ A a → H1[a]? = H[a]?) : vx_Zq C n d A U H1 := ⟨va_Zq.kept h.1 hq, vx_L.kept h.2 hq⟩
theorem vx_Zq.narrow {C n d : String} {A B : Nat → Prop} {U : State} {H : Heap} (h : vx_Zq C n d A U H) (hAB : ∀ q, B q → A q) : vx_Zq C n d B U H := ⟨va_Zq.narrow h.1 hAB, vx_L.narrow h.2 hAB⟩
theorem vx_Zqof {args : Array Value} {s : State} {C n d : String} {A : Nat → Prop} (hl : (Cond.laysStatic C n d).before args s = true) (hini : (Cond.initialized C).before args s = true) (h : (Cond.isRef (.static C n d)).before args s = true) (hA : ∀ a : Nat, a < s.heap.size → ¬ A a) : vx_Zq C n d A s s.heap := by
  refine ⟨va_Zqof hl hini h hA, ?_⟩
  obtain ⟨c, k, i, f, a, cell, h1, h2, h3, h4, h5, h6, h7, h8, h9⟩ := Cond.laysStatic_spec hl
  exact ⟨c, k, i, f, a, cell, h1, h2, h3, h4, h5, h6, h7, h8, h9, hA a (Array.getElem?_eq_some_iff.mp h5).1⟩
theorem vx_isRef {C n d : String} {v : Value} {A : Nat → Prop} {s : State} {args : Array Value} (h : va_Z C n d v A s s.heap) (hv : v.isRef = true) : (Cond.isRef (.static C n d)).before args s = true := by
  obtain ⟨cf, kf, fi, f, a, cell, h1, h2, h3, h4, h5, h6, h7, -⟩ := h
  have he : (Term.static C n d).eval args s none [] s = some v := by
    simp [Term.eval, State.fieldNamed?, h1, h2, h4, h5, h6, h7]
  simp only [Cond.before, Cond.holds, Cond.value, he]
  cases v <;> simp_all [Value.isRef]
theorem vx_isRefq {C n d : String} {A : Nat → Prop} {s : State} {args : Array Value} (h : va_Zq C n d A s s.heap) : (Cond.isRef (.static C n d)).before args s = true := by
  rcases h with h | ⟨t, h⟩
  · exact vx_isRef h rfl
  · exact vx_isRef h rfl
/-- the same frame, seen from here: as if the method were called anew in this heap -/
theorem vx_rebase {T : State} (X : Stand p l e R s m args below meth c T locs cells slots) {R' : Room} (hf : R'.frames ≤ R.frames) (hl : R'.locals ≤ R.locals) (hc : cells + R'.cells ≤ R.cells) (hs : slots + R'.slots ≤ R.slots) :
    Stand p l e R' ((T.setVm s.vm).setFrames (.invoking m args :: below)) m args below meth c T [] 0 0 := by
  have htop : (T.setVm s.vm).topJava?.isSome := X.here.top
  have hF : ((T.setVm s.vm).setFrames (.invoking m args :: below)).frames = .invoking m args :: below := State.frames_setFrames _ (State.cur_lt_of_top htop)
  obtain ⟨g₀, hg0⟩ := Option.isSome_iff_exists.mp htop
  obtain ⟨r, hr⟩ := State.topJava?_eq_some.mp hg0
  have hl9 : e.platform.stackLimits (T.setVm s.vm).me = e.platform.stackLimits s.me := X.limits
  have hb9 : (T.setVm s.vm).me.stackBytes = s.me.stackBytes := X.bytes
  refine ⟨X.admits, X.cas, X.clock, hF, ?_, X.hears, X.method, X.code, X.here, X.tail, X.warmed, ?_, ?_, ?_⟩
  · have h := X.room
    have hU : ((T.setVm s.vm).setFrames (.invoking m args :: below)).localsInUse = s.localsInUse := by
      rw [State.localsInUse_invoking hF (meth := meth) (c := c) X.method X.code, State.localsInUse_invoking X.frames X.method X.code]
    simp only [State.hasRoom, Bool.and_eq_true, decide_eq_true_eq] at h ⊢
    obtain ⟨⟨⟨⟨h1, h2, h3, h4, h5, h6⟩, h7⟩, h8⟩, h9⟩ := h
    rw [X.frames, List.length_cons] at h2 h3
    have q1 := X.heapSize
    have q2 := X.used
    simp only [hF, hU, List.length_cons, State.stackLimits_setFrames, State.stackBytes_setFrames, hl9, hb9]
    refine ⟨⟨⟨⟨by omega, by omega, by omega, by omega, by omega, h6⟩, ?_⟩, ?_⟩, X.book⟩
    · show T.heap.size + R'.cells ≤ e.platform.maxCells
      omega
    · show T.slotsUsed + R'.slots ≤ e.platform.maxSlots
      omega
  · rw [State.stackLimits_setFrames]; rfl
  · rw [State.stackBytes_setFrames]; rfl
  · refine ⟨?_, Nat.le_refl _, Nat.le_refl _, ?_, ?_, fun a c9 h9 => ⟨c9, h9, rfl, rfl, fun _ _ => rfl⟩⟩
    · obtain ⟨t, ht, -⟩ := State.frames_cons hr
      show T.setVm s.vm = { ((T.setVm s.vm).setFrames (.invoking m args :: below)).setFrames (T.setVm s.vm).frames with heap := T.heap, slotsUsed := T.slotsUsed }
      rw [State.setFrames_setFrames, State.setFrames_self ht]
      rfl
    · show T.slotsUsed = T.slotsUsed + ((T.heap.toList.drop T.heap.size).map (·.slots.size)).sum
      rw [List.drop_eq_nil_of_le (Nat.le_of_eq Array.length_toList)]
      rfl
    · show ((T.heap.toList.drop T.heap.size).map (·.slots.size)).sum ≤ 0
      rw [List.drop_eq_nil_of_le (Nat.le_of_eq Array.length_toList)]
      exact Nat.le_refl _
/-- 'throw new E()': new; dup; invokespecial; athrow -/
theorem vx_throw0 {cc : ByteArray} {pc : Nat} (hexec : p.tables.exec = Jvm.exec) (hb : c.code = cc) (hl : l.stackTraces = false) {own cls : String} {names : List String} {ik ic mc ms : Nat} {A : Nat → Prop}
    (hown : s.vm.findClass own = some m.cls) (hcls : Bundle.fit cls = true) (hnames : ∀ n ∈ names, Bundle.fit n = true)
    (hk : (Cond.classLink own ik cls).before args s = true) (hini : (Cond.initialized cls).before args s = true) (hat : ∀ w ∈ vx_at0 own ic cls names, w.before args s = true)
    (hgood : ∀ w ∈ Cond.classLink own ik cls :: Cond.initialized cls :: vx_at0 own ic cls names, vx_ot w = true)
    (hU : vx_Zq Bundle.tN "UNASSIGNED_STACK" Bundle.steD A s s.heap) (hN : vx_Zq Bundle.tN "SUPPRESSED_SENTINEL" Bundle.listD A s s.heap) (hS : va_S A s.heap H locs) (hsize : ls.size = c.maxLocals)
    (d0 : decode cc pc = .ok (.new ik, 3)) (d3 : decode cc (pc + 3) = .ok (.dup, 1)) (d4 : decode cc (pc + 4) = .ok (.invokespecial ic, 3)) (d7 : decode cc (pc + 7) = .ok (.athrow, 1))
    (hout : ∀ x ∈ c.exceptionTable.toList, covers x (pc + 7) = false)
    (hRframes : names.length + 3 < R.frames) (hRlocals : (rest.map fun v => v.category).sum + (13 * (names.length + 1) + 42) ≤ R.locals) (hRcells : cells + 1 ≤ R.cells) (hRslots : slots + 6 ≤ R.slots) (hlocks : meth.locks = false)
    (hx : ∀ t : State, s.vm.Alike t.vm → H.size ≤ t.heap.size → (∀ q : Nat, q < H.size → t.heap[q]? = H[q]?) → XC cls s t)
    (hf : ∀ z ∈ locs, free z.base) (hc : cells + 1 ≤ mc) (hs : slots + 6 ≤ ms) :
    W p l e R s m args below meth c H locs cells slots (vx_MQ below Qc XC args s mc ms free) (F0 m pc ls rest) := by
  intro T hT X
  have htr : e.platform.stackTraces = false := (show e.platform.stackTraces = l.stackTraces by rw [X.admits.platform]).trans hl
  have Y := vx_rebase X (R' := { frames := R.frames, locals := R.locals, cells := 1, slots := 6 }) (Nat.le_refl _) (Nat.le_refl _) hRcells hRslots
  obtain ⟨s', hA⟩ : ∃ z, z = (T.setVm s.vm).setFrames (.invoking m args :: below) := ⟨_, rfl⟩
  rw [← hA] at Y
  have hvm : s'.vm = s.vm := by rw [hA]; rfl
  have hhp : s'.heap = H := by rw [hA]; exact hT
  have hW0 : s.WarmedH s'.vm := by rw [hvm]; exact State.WarmedH.refl s
  have hat' : ∀ w ∈ vx_at0 own ic cls names, w.before args s' = true := fun w hw => vx_ot_at hW0 hvm.symm (hgood w (List.mem_cons_of_mem _ (List.mem_cons_of_mem _ hw))) (hat w hw)
  have hk' : (Cond.classLink own ik cls).before args s' = true := vx_ot_at hW0 hvm.symm (hgood _ List.mem_cons_self) hk
  have hini' : (Cond.initialized cls).before args s' = true := vx_ot_at hW0 hvm.symm (hgood _ (List.mem_cons_of_mem _ List.mem_cons_self)) hini
  have hU' : vx_Zq Bundle.tN "UNASSIGNED_STACK" Bundle.steD A s' s'.heap := by rw [hhp]; exact vx_Zq.moved hW0.alike (hU.kept hS.2.1)
  have hN' : vx_Zq Bundle.tN "SUPPRESSED_SENTINEL" Bundle.listD A s' s'.heap := by rw [hhp]; exact vx_Zq.moved hW0.alike (hN.kept hS.2.1)
  have h : ∀ w ∈ Bundle.ownAtoms0 own ic cls names, w.before args s' = true := vx_own hat' (vx_isRefq hU'.1) (vx_isRefq hN'.1) hU'.2.word hN'.2.word
  have hown' : s'.vm.findClass own = some m.cls := by rw [hvm]; exact hown
  have hins : (Cond.instantiable cls 6).before args s' = true := h _ (by simp [Bundle.ownAtoms0])
  obtain ⟨vm₁, cX, kX, hfX, hkX, -, -, X₁, st1⟩ := Y.newCold hexec (own := own) (C := cls) (index := ik) (n := 6) hown' hk' hins hini'
    (g := F0 m pc ls rest) rfl (by rw [hb]; exact d0) (Nat.le_refl _) (Nat.le_refl _)
  generalize hT1 : (T.setVm vm₁).pushCell { cls := cX, slots := kX.instanceTypes.map defaultValue, vm := .none } = T1 at X₁ st1
  have hcat : (Value.ref T.heap.size).category = 1 := rfl
  have hcellA : T1.heap[T.heap.size]? = some (freshCell cX kX) := by rw [← hT1]; exact State.heap_pushCell_size _ _
  have d3' : decode c.code (pc + 3) = .ok (.dup, 1) := by rw [hb]; exact d3
  obtain ⟨U, hsteps, hrun, hend, hW, hsame, ce, hce, hO⟩ := X₁.ctorThrow0 hexec htr (own := own) (cls := cls) (names := names) (ic := ic) hown' hcls hnames h (fun x hx => nomatch hx) hfX hkX hcellA (by rw [hhp, hT]; exact Nat.le_refl _)
    (g := { method := m, pc := pc + 4, locals := ls, stack := .ref T.heap.size :: .ref T.heap.size :: rest, locked := none }) rfl hsize rfl rfl (rest := rest) rfl
    (by rw [hb]; exact d4) (by rw [hb]; exact d7) hout hRframes (by simp only [List.map_cons, List.sum_cons, hcat]; omega) hlocks
  obtain ⟨f1, f2⟩ := vx_frame hsame
  rw [hhp] at f1 f2
  have hWs : s.WarmedH U.vm := State.WarmedH.trans hW0 hW
  have hcl : s.vm.findClass cls = some ce.cls := by
    have h9 := hO.cls
    rw [hvm] at h9
    exact h9
  have hall : s.sameButNew ({ U with vm := s.vm } : State) locs mc ms := by
    subst hA
    obtain ⟨e1, e2⟩ := hsame
    rw [State.setFrames_setFrames] at e1
    have h2 : (T.setVm s.vm).sameButNew ({ U with vm := s.vm } : State) [] (0 + 1) (0 + 6) := ⟨e1, e2⟩
    have h3 := X.same.trans h2
    rw [List.append_nil] at h3
    exact h3.mono hc hs
  refine ⟨U, ?_, .threw T.heap.size, hrun, hend, Or.inr ⟨T.heap.size, rfl, cls, ce, locs, hx U hWs.alike f1 (fun q hq => f2 q hq (fun z hz => nomatch hz)), hce, hO.vm, hcl, hWs, hall, hf⟩⟩
  refine st1 _ ?_
  show Steps p.tables e below (T1.setTop { method := m, pc := pc + 3, locals := ls, stack := .ref T.heap.size :: rest, locked := none }) _
  jvm_step X₁.here [X₁.here.top, hexec, d3', Value.category]
  exact hsteps
/-- 'throw new E("text")': new; dup; ldc; invokespecial; athrow -/
theorem vx_throwS {cc : ByteArray} {pc : Nat} (hexec : p.tables.exec = Jvm.exec) (hb : c.code = cc) (hl : l.stackTraces = false) {own cls text : String} {names : List String} {ik is ic mc ms sa : Nat} {A : Nat → Prop}
    (hown : s.vm.findClass own = some m.cls) (hcls : Bundle.fit cls = true) (hnames : ∀ n ∈ names, Bundle.fit n = true)
    (hk : (Cond.classLink own ik cls).before args s = true) (hini : (Cond.initialized cls).before args s = true) (hstr : vk_R own is text sa s) (hat : ∀ w ∈ vx_atS own ic cls names, w.before args s = true)
    (hgood : ∀ w ∈ Cond.classLink own ik cls :: Cond.initialized cls :: vx_atS own ic cls names, vx_ot w = true)
    (hU : vx_Zq Bundle.tN "UNASSIGNED_STACK" Bundle.steD A s s.heap) (hN : vx_Zq Bundle.tN "SUPPRESSED_SENTINEL" Bundle.listD A s s.heap) (hS : va_S A s.heap H locs) (hsize : ls.size = c.maxLocals)
    (d0 : decode cc pc = .ok (.new ik, 3)) (d3 : decode cc (pc + 3) = .ok (.dup, 1)) (d4 : decode cc (pc + 4) = .ok (.ldc is, 2)) (d6 : decode cc (pc + 6) = .ok (.invokespecial ic, 3)) (d9 : decode cc (pc + 9) = .ok (.athrow, 1))
    (hout : ∀ x ∈ c.exceptionTable.toList, covers x (pc + 9) = false)
    (hRframes : names.length + 3 < R.frames) (hRlocals : (rest.map fun v => v.category).sum + (13 * (names.length + 1) + 43) ≤ R.locals) (hRcells : cells + 1 ≤ R.cells) (hRslots : slots + 6 ≤ R.slots) (hlocks : meth.locks = false)
    (hx : ∀ t : State, s.vm.Alike t.vm → H.size ≤ t.heap.size → (∀ q : Nat, q < H.size → t.heap[q]? = H[q]?) → XC cls s t)
    (hf : ∀ z ∈ locs, free z.base) (hc : cells + 1 ≤ mc) (hs : slots + 6 ≤ ms) :
    W p l e R s m args below meth c H locs cells slots (vx_MQ below Qc XC args s mc ms free) (F0 m pc ls rest) := by
  intro T hT X
  have htr : e.platform.stackTraces = false := (show e.platform.stackTraces = l.stackTraces by rw [X.admits.platform]).trans hl
  have Y := vx_rebase X (R' := { frames := R.frames, locals := R.locals, cells := 1, slots := 6 }) (Nat.le_refl _) (Nat.le_refl _) hRcells hRslots
  obtain ⟨s', hA⟩ : ∃ z, z = (T.setVm s.vm).setFrames (.invoking m args :: below) := ⟨_, rfl⟩
  rw [← hA] at Y
  have hvm : s'.vm = s.vm := by rw [hA]; rfl
  have hhp : s'.heap = H := by rw [hA]; exact hT
  have hW0 : s.WarmedH s'.vm := by rw [hvm]; exact State.WarmedH.refl s
  have hat' : ∀ w ∈ vx_atS own ic cls names, w.before args s' = true := fun w hw => vx_ot_at hW0 hvm.symm (hgood w (List.mem_cons_of_mem _ (List.mem_cons_of_mem _ hw))) (hat w hw)
  have hk' : (Cond.classLink own ik cls).before args s' = true := vx_ot_at hW0 hvm.symm (hgood _ List.mem_cons_self) hk
  have hini' : (Cond.initialized cls).before args s' = true := vx_ot_at hW0 hvm.symm (hgood _ (List.mem_cons_of_mem _ List.mem_cons_self)) hini
  have hU' : vx_Zq Bundle.tN "UNASSIGNED_STACK" Bundle.steD A s' s'.heap := by rw [hhp]; exact vx_Zq.moved hW0.alike (hU.kept hS.2.1)
  have hN' : vx_Zq Bundle.tN "SUPPRESSED_SENTINEL" Bundle.listD A s' s'.heap := by rw [hhp]; exact vx_Zq.moved hW0.alike (hN.kept hS.2.1)
  have h : ∀ w ∈ Bundle.ownAtoms own ic cls names, w.before args s' = true := vx_own hat' (vx_isRefq hU'.1) (vx_isRefq hN'.1) hU'.2.word hN'.2.word
  have hown' : s'.vm.findClass own = some m.cls := by rw [hvm]; exact hown
  have hins : (Cond.instantiable cls 6).before args s' = true := h _ (by simp [Bundle.ownAtoms])
  obtain ⟨vm₁, cX, kX, hfX, hkX, -, -, X₁, st1⟩ := Y.newCold hexec (own := own) (C := cls) (index := ik) (n := 6) hown' hk' hins hini'
    (g := F0 m pc ls rest) rfl (by rw [hb]; exact d0) (Nat.le_refl _) (Nat.le_refl _)
  generalize hT1 : (T.setVm vm₁).pushCell { cls := cX, slots := kX.instanceTypes.map defaultValue, vm := .none } = T1 at X₁ st1
  have hcat : (Value.ref T.heap.size).category = 1 := rfl
  have hcellA : T1.heap[T.heap.size]? = some (freshCell cX kX) := by rw [← hT1]; exact State.heap_pushCell_size _ _
  have d3' : decode c.code (pc + 3) = .ok (.dup, 1) := by rw [hb]; exact d3
  have d4' : decode c.code (pc + 4) = .ok (.ldc is, 2) := by rw [hb]; exact d4
  have hstr' : vk_R own is text sa s' := vk_R.warm hW0 hstr
  obtain ⟨U, hsteps, hrun, hend, hW, hsame, ce, hce, hO⟩ := X₁.ctorThrowS hexec htr (own := own) (cls := cls) (names := names) (ic := ic) hown' hcls hnames h (fun x hx => nomatch hx) hfX hkX hcellA (by rw [hhp, hT]; exact Nat.le_refl _) (msg := .ref sa) rfl
    (g := { method := m, pc := pc + 6, locals := ls, stack := .ref sa :: .ref T.heap.size :: .ref T.heap.size :: rest, locked := none }) rfl hsize rfl rfl (rest := rest) rfl
    (by rw [hb]; exact d6) (by rw [hb]; exact d9) hout hRframes (by simp only [List.map_cons, List.sum_cons, hcat]; omega) hlocks
  obtain ⟨f1, f2⟩ := vx_frame hsame
  rw [hhp] at f1 f2
  have hWs : s.WarmedH U.vm := State.WarmedH.trans hW0 hW
  have hcl : s.vm.findClass cls = some ce.cls := by
    have h9 := hO.cls
    rw [hvm] at h9
    exact h9
  have hall : s.sameButNew ({ U with vm := s.vm } : State) locs mc ms := by
    subst hA
    obtain ⟨e1, e2⟩ := hsame
    rw [State.setFrames_setFrames] at e1
    have h2 : (T.setVm s.vm).sameButNew ({ U with vm := s.vm } : State) [] (0 + 1) (0 + 6) := ⟨e1, e2⟩
    have h3 := X.same.trans h2
    rw [List.append_nil] at h3
    exact h3.mono hc hs
  refine ⟨U, ?_, .threw T.heap.size, hrun, hend, Or.inr ⟨T.heap.size, rfl, cls, ce, locs, hx U hWs.alike f1 (fun q hq => f2 q hq (fun z hz => nomatch hz)), hce, hO.vm, hcl, hWs, hall, hf⟩⟩
  refine st1 _ ?_
  show Steps p.tables e below (T1.setTop { method := m, pc := pc + 3, locals := ls, stack := .ref T.heap.size :: rest, locked := none }) _
  jvm_step X₁.here [X₁.here.top, hexec, d3', Value.category]
  exact X₁.ldcString hexec (own := own) (text := text) (index := is) (a := sa) hown' hstr'.1 hstr'.2
    (g := { method := m, pc := pc + 4, locals := ls, stack := .ref T.heap.size :: .ref T.heap.size :: rest, locked := none }) rfl d4' _ hsteps
/-- 'throw new E("text")', the text by a wide index -/
theorem vx_throwSW {cc : ByteArray} {pc : Nat} (hexec : p.tables.exec = Jvm.exec) (hb : c.code = cc) (hl : l.stackTraces = false) {own cls text : String} {names : List String} {ik is ic mc ms sa : Nat} {A : Nat → Prop}
    (hown : s.vm.findClass own = some m.cls) (hcls : Bundle.fit cls = true) (hnames : ∀ n ∈ names, Bundle.fit n = true)
    (hk : (Cond.classLink own ik cls).before args s = true) (hini : (Cond.initialized cls).before args s = true) (hstr : vk_R own is text sa s) (hat : ∀ w ∈ vx_atS own ic cls names, w.before args s = true)
    (hgood : ∀ w ∈ Cond.classLink own ik cls :: Cond.initialized cls :: vx_atS own ic cls names, vx_ot w = true)
    (hU : vx_Zq Bundle.tN "UNASSIGNED_STACK" Bundle.steD A s s.heap) (hN : vx_Zq Bundle.tN "SUPPRESSED_SENTINEL" Bundle.listD A s s.heap) (hS : va_S A s.heap H locs) (hsize : ls.size = c.maxLocals)
    (d0 : decode cc pc = .ok (.new ik, 3)) (d3 : decode cc (pc + 3) = .ok (.dup, 1)) (d4 : decode cc (pc + 4) = .ok (.ldc_w is, 3)) (d7 : decode cc (pc + 7) = .ok (.invokespecial ic, 3)) (d10 : decode cc (pc + 10) = .ok (.athrow, 1))
    (hout : ∀ x ∈ c.exceptionTable.toList, covers x (pc + 10) = false)
    (hRframes : names.length + 3 < R.frames) (hRlocals : (rest.map fun v => v.category).sum + (13 * (names.length + 1) + 43) ≤ R.locals) (hRcells : cells + 1 ≤ R.cells) (hRslots : slots + 6 ≤ R.slots) (hlocks : meth.locks = false)
    (hx : ∀ t : State, s.vm.Alike t.vm → H.size ≤ t.heap.size → (∀ q : Nat, q < H.size → t.heap[q]? = H[q]?) → XC cls s t)
    (hf : ∀ z ∈ locs, free z.base) (hc : cells + 1 ≤ mc) (hs : slots + 6 ≤ ms) :
    W p l e R s m args below meth c H locs cells slots (vx_MQ below Qc XC args s mc ms free) (F0 m pc ls rest) := by
  intro T hT X
  have htr : e.platform.stackTraces = false := (show e.platform.stackTraces = l.stackTraces by rw [X.admits.platform]).trans hl
  have Y := vx_rebase X (R' := { frames := R.frames, locals := R.locals, cells := 1, slots := 6 }) (Nat.le_refl _) (Nat.le_refl _) hRcells hRslots
  obtain ⟨s', hA⟩ : ∃ z, z = (T.setVm s.vm).setFrames (.invoking m args :: below) := ⟨_, rfl⟩
  rw [← hA] at Y
  have hvm : s'.vm = s.vm := by rw [hA]; rfl
  have hhp : s'.heap = H := by rw [hA]; exact hT
  have hW0 : s.WarmedH s'.vm := by rw [hvm]; exact State.WarmedH.refl s
  have hat' : ∀ w ∈ vx_atS own ic cls names, w.before args s' = true := fun w hw => vx_ot_at hW0 hvm.symm (hgood w (List.mem_cons_of_mem _ (List.mem_cons_of_mem _ hw))) (hat w hw)
  have hk' : (Cond.classLink own ik cls).before args s' = true := vx_ot_at hW0 hvm.symm (hgood _ List.mem_cons_self) hk
  have hini' : (Cond.initialized cls).before args s' = true := vx_ot_at hW0 hvm.symm (hgood _ (List.mem_cons_of_mem _ List.mem_cons_self)) hini
  have hU' : vx_Zq Bundle.tN "UNASSIGNED_STACK" Bundle.steD A s' s'.heap := by rw [hhp]; exact vx_Zq.moved hW0.alike (hU.kept hS.2.1)
  have hN' : vx_Zq Bundle.tN "SUPPRESSED_SENTINEL" Bundle.listD A s' s'.heap := by rw [hhp]; exact vx_Zq.moved hW0.alike (hN.kept hS.2.1)
  have h : ∀ w ∈ Bundle.ownAtoms own ic cls names, w.before args s' = true := vx_own hat' (vx_isRefq hU'.1) (vx_isRefq hN'.1) hU'.2.word hN'.2.word
  have hown' : s'.vm.findClass own = some m.cls := by rw [hvm]; exact hown
  have hins : (Cond.instantiable cls 6).before args s' = true := h _ (by simp [Bundle.ownAtoms])
  obtain ⟨vm₁, cX, kX, hfX, hkX, -, -, X₁, st1⟩ := Y.newCold hexec (own := own) (C := cls) (index := ik) (n := 6) hown' hk' hins hini'
    (g := F0 m pc ls rest) rfl (by rw [hb]; exact d0) (Nat.le_refl _) (Nat.le_refl _)
  generalize hT1 : (T.setVm vm₁).pushCell { cls := cX, slots := kX.instanceTypes.map defaultValue, vm := .none } = T1 at X₁ st1
  have hcat : (Value.ref T.heap.size).category = 1 := rfl
  have hcellA : T1.heap[T.heap.size]? = some (freshCell cX kX) := by rw [← hT1]; exact State.heap_pushCell_size _ _
  have d3' : decode c.code (pc + 3) = .ok (.dup, 1) := by rw [hb]; exact d3
  have d4' : decode c.code (pc + 4) = .ok (.ldc_w is, 3) := by rw [hb]; exact d4
  have hstr' : vk_R own is text sa s' := vk_R.warm hW0 hstr
  obtain ⟨U, hsteps, hrun, hend, hW, hsame, ce, hce, hO⟩ := X₁.ctorThrowS hexec htr (own := own) (cls := cls) (names := names) (ic := ic) hown' hcls hnames h (fun x hx => nomatch hx) hfX hkX hcellA (by rw [hhp, hT]; exact Nat.le_refl _) (msg := .ref sa) rfl
    (g := { method := m, pc := pc + 7, locals := ls, stack := .ref sa :: .ref T.heap.size :: .ref T.heap.size :: rest, locked := none }) rfl hsize rfl rfl (rest := rest) rfl
    (by rw [hb]; exact d7) (by rw [hb]; exact d10) hout hRframes (by simp only [List.map_cons, List.sum_cons, hcat]; omega) hlocks
  obtain ⟨f1, f2⟩ := vx_frame hsame
  rw [hhp] at f1 f2
  have hWs : s.WarmedH U.vm := State.WarmedH.trans hW0 hW
  have hcl : s.vm.findClass cls = some ce.cls := by
    have h9 := hO.cls
    rw [hvm] at h9
    exact h9
  have hall : s.sameButNew ({ U with vm := s.vm } : State) locs mc ms := by
    subst hA
    obtain ⟨e1, e2⟩ := hsame
    rw [State.setFrames_setFrames] at e1
    have h2 : (T.setVm s.vm).sameButNew ({ U with vm := s.vm } : State) [] (0 + 1) (0 + 6) := ⟨e1, e2⟩
    have h3 := X.same.trans h2
    rw [List.append_nil] at h3
    exact h3.mono hc hs
  refine ⟨U, ?_, .threw T.heap.size, hrun, hend, Or.inr ⟨T.heap.size, rfl, cls, ce, locs, hx U hWs.alike f1 (fun q hq => f2 q hq (fun z hz => nomatch hz)), hce, hO.vm, hcl, hWs, hall, hf⟩⟩
  refine st1 _ ?_
  show Steps p.tables e below (T1.setTop { method := m, pc := pc + 3, locals := ls, stack := .ref T.heap.size :: rest, locked := none }) _
  jvm_step X₁.here [X₁.here.top, hexec, d3', Value.category]
  exact X₁.ldcStringW hexec (own := own) (text := text) (index := is) (a := sa) hown' hstr'.1 hstr'.2
    (g := { method := m, pc := pc + 4, locals := ls, stack := .ref T.heap.size :: .ref T.heap.size :: rest, locked := none }) rfl d4' _ hsteps
end Ends
section Bodies
variable {l : Launch}
theorem vx_ofW {y : MethodName} {ws ws' : List Cond} {rm : Room} {Pc : Array Value → State → Prop} {Qc : Array Value → State → Outcome → State → Prop} {XC : String → State → State → Prop} {mc ms : Nat} {free : Addr → Prop} {cc : ByteArray} {maxL : Nat} {ret : Option FieldType}
    (hy : plainName y.cls = true) (hw : ws = Cond.code y cc maxL ret :: ws')
    (body : ∀ p e s m args below meth c s₁, BodyLoose p l y (headSpec ws rm) cc maxL ret e s m args below meth c s₁ → c.maxLocals = maxL → (∀ x ∈ c.exceptionTable.toList, False) → Pc args s →
      W p l e (headSpec ws rm).room s m args below meth c s.heap [] 0 0 (vx_MQ below Qc XC args s mc ms free) (entryFrame m args maxL)) : vx_Met l y ws rm Pc Qc XC mc ms free := by
  refine MetFree.of_bodyS (code := cc) (maxLocals := maxL) (ret := ret) hy ?_ ?_
  · intro args s m h hn
    obtain ⟨meth, c, h1, h2, h3, h4, h5, h6, -, -⟩ := Cond.code_spec hn (atoms_spec (ws := ws) h _ (by rw [hw]; exact List.mem_cons_self))
    exact ⟨meth, c, h1, h2, h3, h4, h5, h6⟩
  · intro p e s m args below meth c s₁ B hml hP _
    have hh0 : s₁.heap = s.heap := by rw [B.state]; rfl
    have ht : ∀ x ∈ c.exceptionTable.toList, False := by
      obtain ⟨meth9, c9, h1, h2, -, -, -, -, h7, -⟩ := Cond.code_spec B.named (atoms_spec (ws := ws) B.pre _ (by rw [hw]; exact List.mem_cons_self))
      cases Option.some.inj (h1.symm.trans B.method)
      cases Option.some.inj (h2.symm.trans (Stand.of_body B).code)
      intro x hx
      rw [Array.isEmpty_iff.mp h7] at hx
      cases hx
    obtain ⟨t, a1, o, b1, b2, b3⟩ := body p e s m args below meth c s₁ B hml ht hP s₁ hh0 (Stand.of_body B)
    exact ⟨t, o, a1, b1, b2, b3⟩
/-- the table of a body with handlers -/
theorem vx_table {p : Program} {x y : MethodName} {S : Spec} {cc bytes : ByteArray} {maxL maxL' : Nat} {ret ret' : Option FieldType} {e : Env} {s s₁ : State} {m : MethodId} {args : Array Value} {below : List Frame} {meth : Method} {c : Code} {hh : List (Nat × Nat × Nat × Nat)}
    (B : BodyLoose p l y S cc maxL ret e s m args below meth c s₁) (h : (Cond.codeWith y bytes maxL' ret' hh).before args s = true) : c.exceptionTable.toList = tableOf hh := by
  obtain ⟨m9, meth9, c9, hn9, h1, h2, -, -, h6, -⟩ := Cond.codeWith_spec h
  cases Option.some.inj (hn9.symm.trans B.named)
  cases Option.some.inj (h1.symm.trans B.method)
  cases Option.some.inj (h2.symm.trans (Stand.of_body B).code)
  rw [← h6, table_eq]
end Bodies
end VXA
/-! ===== END ===== -/
/-! ===== BEGIN a static call of a method with an exception table ===== -/
section VXS
variable {p : Program} {l : Launch} {e : Env} {R : Room} {s : State} {m : MethodId} {args : Array Value} {below : List Frame} {meth : Method} {c : Code} {T : State} {H : Heap} {locs : List Loc} {cells slots : Nat}
abbrev vx_CSW (R : Room) (s : State) (args : Array Value) (own : String) (index : Nat) (y : MethodName) (bytes : ByteArray) (maxL : Nat) (ret : Option FieldType) (hh : List (Nat × Nat × Nat × Nat)) (ws : List Cond) (rm : Room) (mc ms n : Nat) : Prop :=
  (rm.cells = mc ∧ rm.slots = ms ∧ rm.frames + 1 ≤ R.frames ∧ 8 + (maxL + 11) + rm.locals ≤ R.locals ∧ (∀ w ∈ ws, ∀ (a' : Array Value) (U : State), s.WarmedH U.vm → w.before a' U = true) ∧ Cond.codeWith y bytes maxL ret hh ∈ ws) ∧
  (Cond.codeWith y bytes maxL ret hh).before args s = true ∧ (Cond.initialized y.cls).before args s = true ∧ (y.cls ≠ "java/lang/invoke/MethodHandle" ∧ y.cls ≠ "java/lang/invoke/VarHandle") ∧
  (∀ sig, parseMethodDescriptor y.desc = some sig → n = sig.parameters.length) ∧ (Cond.methodLink own index y).before args s = true ∧ (Cond.static y).before args s = true
theorem vx_cwSW {own : String} {index maxL mc ms : Nat} {y : MethodName} {bytes : ByteArray} {ret : Option FieldType} {hh : List (Nat × Nat × Nat × Nat)} {Ts ws ws' : List Cond} {rm : Room} (n : Nat) (ht : ∀ w ∈ Ts, w.before args s = true) (hT : GoodIn Ts (va_wsS own index y ws)) (hw : ws = Cond.codeWith y bytes maxL ret hh :: ws') (hrc : rm.cells = mc) (hrs : rm.slots = ms)
    (hd : y.cls ≠ "java/lang/invoke/MethodHandle" ∧ y.cls ≠ "java/lang/invoke/VarHandle" ∧ (parseMethodDescriptor y.desc).map (fun d => d.parameters.length) = some n) (hR : rm.frames + 1 ≤ R.frames ∧ 8 + (maxL + 11) + rm.locals ≤ R.locals) :
    vx_CSW R s args own index y bytes maxL ret hh ws rm mc ms n := by
  have ok : ∀ w ∈ va_wsS own index y ws, w.before args s = true := fun w h => ht w (hT w h).1
  have hG : GoodIn Ts ws := fun w h => hT w (by unfold va_wsS; exact List.mem_append_right _ h)
  have hc : Cond.codeWith y bytes maxL ret hh ∈ ws := by rw [hw]; exact List.mem_cons_self
  refine ⟨⟨hrc, hrs, hR.1, hR.2, pay_in ht hG, hc⟩, ht _ (hG _ hc).1, ok _ (by simp [va_wsS]), ⟨hd.1, hd.2.1⟩, fun sig h => ?_, ok _ (by simp [va_wsS]), ok _ (by simp [va_wsS])⟩
  have h2 := hd.2.2
  rw [h] at h2
  exact (Option.some.inj h2).symm
theorem vx_callSW (X : Stand p l e R s m args below meth c T locs cells slots) (hexec : p.tables.exec = Jvm.exec) {own : String} {index : Nat} {y : MethodName} {bytes : ByteArray} {maxL : Nat} {ret : Option FieldType} {hh : List (Nat × Nat × Nat × Nat)}
    (hown : s.vm.findClass own = some m.cls) (hlink : (Cond.methodLink own index y).before args s = true) (hstat : (Cond.static y).before args s = true) (hinit : (Cond.initialized y.cls).before args s = true)
    (hcode : (Cond.codeWith y bytes maxL ret hh).before args s = true) (hy : y.cls ≠ "java/lang/invoke/MethodHandle" ∧ y.cls ≠ "java/lang/invoke/VarHandle")
    {W9 : Nat} {Pre : Pt → Array Value → Prop} {Post : Pt → Array Value → Option Value → Pt → Prop} (hK : Back l R p e below s args y 3 W9 Pre Post)
    {g : JFrame} (hg : g.method = m) (hsize : g.locals.size = c.maxLocals) {argsL rest : List Value} (hlen : ∀ sig, parseMethodDescriptor y.desc = some sig → argsL.length = sig.parameters.length)
    (hstack : g.stack = argsL.reverse ++ rest) (hW : 2 * g.monitorRoom + (rest.map fun v => v.category).sum ≤ W9) (hdg : decode c.code g.pc = .ok (.invokestatic index, 3))
    (hpre : ∀ vm₁, s.WarmedH vm₁ → Pre ⟨T.setVm vm₁, locs, cells, slots⟩ argsL.toArray) :
    ∃ (v : Option Value) (vm₁ : Vm) (B : Pt), s.WarmedH vm₁ ∧ Stand p l e R s m args below meth c B.U B.locs B.cells B.slots ∧ Post ⟨T.setVm vm₁, locs, cells, slots⟩ argsL.toArray v B ∧
      ∀ target, Steps p.tables e below (B.U.setTop { g with pc := g.pc + 3, stack := v.toList ++ rest }) target → Steps p.tables e below (T.setTop g) target := by
  obtain ⟨mk, methM, cM, hnamed, hmethM, -, -, -, -, -, -, hsigM⟩ := Cond.codeWith_spec hcode
  have hstatic : methM.isStatic = true := Cond.static_spec hnamed hmethM hstat
  obtain ⟨kP, hkP, -⟩ := className_of_methodNamed hnamed
  have hinitP : kP.init = .initialized := Cond.initialized_spec (findClass_of_methodNamed hnamed) hkP hinit
  obtain ⟨vm₁, X₁, hstep₁⟩ := X.invokestatic hexec hown hlink hnamed hmethM hstatic hkP hinitP hy (g := g) hg (argsL := argsL) (rest := rest) (hlen _ hsigM) hstack hdg
  obtain ⟨v, B, X', hpost, hsteps⟩ := hK m meth c ⟨T.setVm vm₁, locs, cells, slots⟩ { g with stack := rest } (.invokestatic index) mk argsL.toArray X₁ hg hsize hdg hW (X₁.named hnamed) (hpre vm₁ X₁.warmed)
  exact ⟨v, vm₁, B, X₁.warmed, X', hpost, fun target h => hstep₁ _ fun acts => by rw [doInvoke_state]; exact hsteps.trans h⟩
theorem vx_runSW {y : MethodName} {bytes cc : ByteArray} {maxL nL mc ms n index : Nat} {ret : Option FieldType} {hh : List (Nat × Nat × Nat × Nat)} {ws : List Cond} {rm : Room} {Pc : Array Value → State → Prop} {Qc : Array Value → State → Outcome → State → Prop} {free : Addr → Prop} {Ts : List Cond} {own : String} {As rest : List Value} {g : JFrame}
    (S : CallFix p m c cc nL s args Ts own) (hM : Met l y ws rm Pc Qc mc ms free) (cw : vx_CSW R s args own index y bytes maxL ret hh ws rm mc ms n) (hp : PreS s H Pc As)
    (hg : g.method = m) (hn : As.length = n) (hsize : g.locals.size = nL) (hstack : g.stack = As.reverse ++ rest) (hW : 2 * g.monitorRoom + (rest.map fun v => v.category).sum ≤ 8) (hdg : decode cc g.pc = .ok (.invokestatic index, 3)) (hf : cells + mc ≤ R.cells ∧ slots + ms ≤ R.slots) :
    va_Run p l e R s m args below meth c H locs cells slots mc ms g rest (Qc As.toArray) (free) := by
  obtain ⟨⟨hrc, hrs, hfr, hlo, hws, hcw⟩, hcode, hini, hy, hlen, hl, hstt⟩ := cw
  have hK : Back l R p e below s args y 3 8 (PreOf R mc ms Pc) (PostOf Qc mc ms free) := va_backW (hh := hh) (bytes := bytes) (maxL := maxL) (ret := ret) hM hp.1 hrc hrs hfr hlo hws hcw (fun a' U hW => word_at hW (Or.inl (by first | rfl | simp [Cond.onTables, Cond.keeps, Cond.steady])) hini)
  obtain ⟨hx, hb, hml, ho, -⟩ := S
  intro T hT X
  obtain ⟨v, vm₁, ⟨U', l2, c2, s2⟩, hW₁, X', ⟨g', mk, t, L, e1, e2, hq, h1, hL, h2, h3⟩, st⟩ := vx_callSW X hx (hh := hh) (bytes := bytes) (maxL := maxL) (ret := ret) ho hl hstt hini hcode hy hK hg (hsize.trans hml.symm) (argsL := As) (rest := rest) (fun sig h => hn.trans (hlen sig h)) hstack hW (by rw [hb]; exact hdg)
    (fun vm₁ hW₁ => ⟨hf.1, hf.2, hp.2 (T.setVm vm₁) hT hW₁⟩)
  dsimp only [Pt.U, Pt.locs, Pt.cells, Pt.slots] at X' e1 e2 h1 h2 h3 st
  subst h1; subst h2; subst h3
  exact ⟨v, (T.setVm vm₁).calling g' mk As.toArray, t, U', L, hT, X', hL, e1, e2, hq, st⟩
/-- not caught here, past rows that name other classes: it goes on to the caller -/
theorem vx_outP {p : Program} {l : Launch} {e : Env} {R : Room} {s : State} {m : MethodId} {args : Array Value} {below : List Frame} {meth : Method} {c : Code} {H : Heap} {locs : List Loc} {cells slots : Nat} {free : Addr → Prop} {ls : Array Slot} {rest : List Value} {Qc : Array Value → State → Outcome → State → Prop} {XC : String → State → State → Prop}
    {pc : Nat} {own E : String} {ce : Cell} {q : Addr} {mc ms : Nat} (hown : s.vm.findClass own = some m.cls) (hlocks : meth.locks = false)
    (hpass : ∀ z ∈ c.exceptionTable.toList, covers z pc = false ∨ (z.catchType ≠ 0 ∧ ∃ nm : String, (Cond.classLink own z.catchType nm).before args s = true ∧ va_Nc E nm s)) (hcell : H[q]? = some ce) (hv : ce.vm = .none) (hcl : s.vm.findClass E = some ce.cls)
    (hx : ∀ t : State, t.heap = H → s.vm.Alike t.vm → XC E s t) (hf : ∀ z ∈ locs, free z.base) (hc : cells ≤ mc) (hs : slots ≤ ms) :
    vx_W p l e R s m args below meth c H locs cells slots (vx_MQ below Qc XC args s mc ms free) (F0 m pc ls rest) q := by
  intro T hT X
  have hpl : e.platform.magicAccessors = ({} : Platform).magicAccessors := by rw [X.admits.platform]
  obtain ⟨vm', hW', X', st⟩ := X.outThrough hlocks q (g := F0 m pc ls rest) rfl rfl rfl (cell := ce) (by rw [hT]; exact hcell) (by rw [hv]; rfl)
    (by obtain ⟨k9, h9, -⟩ := Vm.findClass_spec hcl; exact ⟨k9, h9⟩) (fun z hz => by
      rcases hpass z hz with h | ⟨hz0, nm, hl1, hn1⟩
      · exact Or.inl h
      · obtain ⟨c6, hc6, hcl6⟩ := Cond.classLink_spec hown hl1 e.platform hpl
        obtain ⟨a8, b8, h1, h2, h3⟩ := hn1
        cases Option.some.inj (h1.symm.trans hcl)
        cases Option.some.inj (h2.symm.trans hc6)
        exact Or.inr ⟨hz0, _, hcl6, h3⟩)
  obtain ⟨g₀, hfr⟩ := X'.frames_eq
  have hcell9 : ((T.setVm vm').setFrames (.throwing q :: below)).heap[q]? = some ce := by
    show T.heap[q]? = some ce
    rw [hT]; exact hcell
  have hend : Ended ((T.setVm vm').setFrames (.throwing q :: below)) below (.threw q) := State.frames_setFrames _ (State.cur_lt_of_frames hfr)
  refine ⟨(T.setVm vm').setFrames (.throwing q :: below), ?_, .threw q, X'.here.running, hend, Or.inr ⟨q, rfl, E, ce, locs, hx _ hT (X'.ends _).1.alike, hcell9, hv, hcl, (X'.ends _).1, (X'.ends _).2.mono hc hs, hf⟩⟩
  rw [X.pushThrowing_eq]
  exact st
/-- a thing of a world lies in the heap -/
theorem vx_lt {D : va_G} {cl : List vw_C} {ws : va_W} {H1 : Heap} (h : va_P D cl ws H1) {k : Nat} {q : Nat × va_E} (hk : ws[k]? = some q) : q.1 < H1.size := (h k q hk).lt
end VXS
/-! ===== END ===== -/
/-! ===== BEGIN methods with a table of their own: called by a name, returning or throwing ===== -/
section VXH
/-! vx_backW, vx_callVX, vx_callSX, vx_callVW, vx_runVW, vx_runVX, vx_runSX, vx_ofWH follow the same proofs as their sisters above (Free/Laws.lean, Shelf42/LK1.lean); vx_outP calls Shelf42/NT130.lean (outThrough). -/
section
variable {l : Launch} {R : Room} {p : Program} {e : Env} {below : List Frame} {s : State} {sargs : Array Value} {y : MethodName} {len W9 : Nat}
theorem vx_backW {ws : List Cond} {rm : Room} {Pc : Array Value → State → Prop} {Qc : Array Value → State → Outcome → State → Prop} {XC : String → State → State → Prop} {mc ms : Nat} {free : Addr → Prop} {bytes : ByteArray} {maxL : Nat} {ret : Option FieldType} {hh : List (Nat × Nat × Nat × Nat)}
    (hM : vx_Met l y ws rm Pc Qc XC mc ms free) (hblind : FrameBlind Pc) (hrc : rm.cells = mc) (hrs : rm.slots = ms)
    (hframes : rm.frames + 1 ≤ R.frames) (hlocals : W9 + (maxL + 11) + rm.locals ≤ R.locals)
    (hws : ∀ w ∈ ws, ∀ a' U, s.WarmedH U.vm → w.before a' U = true) (hcode : Cond.codeWith y bytes maxL ret hh ∈ ws) (hinit : ∀ a' U, s.WarmedH U.vm → (Cond.initialized y.cls).before a' U = true) :
    vx_Back l R p e below s sargs y len W9 (PreOf R mc ms Pc) (PostOf Qc mc ms free) (vx_Post XC mc ms free) := by
  intro m meth c A g ig mk a X hg hsize hdg hW hn hp
  have h1 : (headSpec ws rm).pre.before a A.U = true := atoms_intro fun w hw => hws w hw _ _ X.warmed
  have h2 : (Cond.codeWith y bytes maxL ret hh).before a A.U = true := hws _ hcode _ _ X.warmed
  have h3 : (Cond.initialized y.cls).before a A.U = true := hinit _ _ X.warmed
  have h4 : A.cells + (headSpec ws rm).room.cells ≤ R.cells := by rw [show (headSpec ws rm).room.cells = mc from hrc]; exact hp.1
  have h5 : A.slots + (headSpec ws rm).room.slots ≤ R.slots := by rw [show (headSpec ws rm).room.slots = ms from hrs]; exact hp.2.1
  have hPc : Pc a (A.U.calling g mk a) := hblind _ _ _ _ hp.2.2
  obtain ⟨U, Ls, c0, s0⟩ := A
  dsimp only [Pt.U, Pt.locs, Pt.cells, Pt.slots] at h1 h2 h3 h4 h5 X hn hPc ⊢
  obtain ⟨m9, methY, cY, hn9, hmY, hcY, -, hlY, -⟩ := Cond.codeWith_spec h2
  cases Option.some.inj (hn9.symm.trans hn)
  obtain ⟨kY, hkY, -⟩ := className_of_methodNamed hn
  have hinitY : kY.init = .initialized := Cond.initialized_spec (findClass_of_methodNamed hn) hkY h3
  have h : At U g.method c below := by rw [hg]; exact X.here
  have hlocals9 : W9 + (maxL + 11) + (headSpec ws rm).room.locals ≤ R.locals := hlocals
  have happ : (headSpec ws rm).appliesLoose y e.platform (U.calling g mk a) = true :=
    Spec.appliesLoose_calling (g := g) h hdg hn hkY hinitY
      (X.room_calling (g := g) (R' := (headSpec ws rm).room) hsize hmY hcY hframes (by rw [hlY]; omega) h4 h5) h1
  obtain ⟨mid, hmid⟩ := h.above
  have hfr : (U.setTop g).frames = (.java g :: mid) ++ below := by rw [State.frames_setTop' g h.top, hmid]; rfl
  obtain ⟨o, s₂, hsteps, -, hend, hq⟩ := Steps.callFree hM p X.admits X.cas X.clock (acts := []) hfr happ hPc trivial
  have hq' : vx_Q Qc XC mc ms free a (U.calling g mk a) o s₂ := hq
  rw [State.frames_setTop' g h.top] at hend
  obtain ⟨g₀, hg0⟩ := Option.isSome_iff_exists.mp h.top
  obtain ⟨r, hr⟩ := State.topJava?_eq_some.mp hg0
  have hr' : (({ U with heap := s₂.heap, slotsUsed := s₂.slotsUsed } : State).setVm s₂.vm).frames = .java g₀ :: r := hr
  rcases hq' with ⟨hqc, L, hfe, hL⟩ | ⟨q, rfl, E, ce, L, hx, hce, hcv, hcl, hW₂, hsm, hL⟩
  · obtain ⟨⟨v, rfl⟩, hW₂, e2, q2, q3, q4, q5, q6⟩ := id hfe
    have e3 : s₂ = ({ (U.calling g mk a).setFrames s₂.frames with heap := s₂.heap, slotsUsed := s₂.slotsUsed } : State).setVm s₂.vm := by
      have : s₂ = ({ s₂ with vm := (U.calling g mk a).vm } : State).setVm s₂.vm := rfl
      rw [e2] at this
      exact this
    obtain ⟨c₂, i₂, len₂, hc₂, hd₂, hf₂⟩ := hend
    have hW' : U.WarmedH s₂.vm := hW₂
    have hcc : c₂ = c := by
      have h1 : s₂.code? g.method = U.code? g.method := by
        rw [State.code?_eq, State.code?_eq, hW'.alike.method?]
      exact Option.some.inj (hc₂.symm.trans (h1.trans h.code))
    subst hcc
    have hlen : len₂ = len := by rw [hdg] at hd₂; cases hd₂; rfl
    subst hlen
    have hs₂ : s₂ = (({ U with heap := s₂.heap, slotsUsed := s₂.slotsUsed } : State).setVm s₂.vm).setTop { g with pc := g.pc + len₂, stack := v.toList ++ g.stack } := by
      refine e3.trans ?_
      rw [hf₂, State.calling_eq h.top, State.setFrames_setFrames, State.setTop_of_frames _ hr', hr]
      rfl
    have hsame : U.sameButNew ({ U with heap := s₂.heap, slotsUsed := s₂.slotsUsed } : State) L mc ms := by
      refine ⟨?_, q2, q3, q4, q5, q6⟩
      obtain ⟨t, ht, -⟩ := State.frames_cons hr
      show ({ U with heap := s₂.heap, slotsUsed := s₂.slotsUsed } : State) = { U.setFrames U.frames with heap := s₂.heap, slotsUsed := s₂.slotsUsed }
      rw [State.setFrames_self ht]
    subst hg
    refine Or.inl ⟨v, ⟨(({ U with heap := s₂.heap, slotsUsed := s₂.slotsUsed } : State).setVm s₂.vm), Ls ++ L, c0 + mc, s0 + ms⟩,
      ⟨X.admits, X.cas, X.clock, X.frames, X.room, X.hears, X.method, X.code, (X.here.setHeapUsed s₂.heap s₂.slotsUsed).setVm hW'.alike, X.tail, State.WarmedH.trans X.warmed hW', X.limits, X.bytes, X.same.trans (hsame.setVm s.vm)⟩,
      ⟨g, mk, s₂, L, rfl, rfl, hqc, rfl, hL, rfl, rfl⟩, ?_⟩
    show Steps p.tables e below _ ((({ U with heap := s₂.heap, slotsUsed := s₂.slotsUsed } : State).setVm s₂.vm).setTop { g with pc := g.pc + len₂, stack := v.toList ++ g.stack })
    rw [← hs₂]
    exact hsteps
  · obtain ⟨e2, q2, q3, q4, q5, q6⟩ := id hsm
    have e3 : s₂ = ({ (U.calling g mk a).setFrames s₂.frames with heap := s₂.heap, slotsUsed := s₂.slotsUsed } : State).setVm s₂.vm := by
      have : s₂ = ({ s₂ with vm := (U.calling g mk a).vm } : State).setVm s₂.vm := rfl
      rw [e2] at this
      exact this
    have hf₂ : s₂.frames = .throwing q :: .java g :: U.frames.tail := hend
    have hW' : U.WarmedH s₂.vm := hW₂
    have hs₂ : s₂ = ((({ U with heap := s₂.heap, slotsUsed := s₂.slotsUsed } : State).setVm s₂.vm).setTop g).pushFrame (.throwing q) := by
      refine e3.trans ?_
      rw [hf₂, State.calling_eq h.top, State.setFrames_setFrames, State.pushFrame, State.frames_setTop _ hr', State.setTop_of_frames _ hr', State.setFrames_setFrames, hr]
      rfl
    have hsame : U.sameButNew ({ U with heap := s₂.heap, slotsUsed := s₂.slotsUsed } : State) L mc ms := by
      refine ⟨?_, q2, q3, q4, q5, q6⟩
      obtain ⟨t, ht, -⟩ := State.frames_cons hr
      show ({ U with heap := s₂.heap, slotsUsed := s₂.slotsUsed } : State) = { U.setFrames U.frames with heap := s₂.heap, slotsUsed := s₂.slotsUsed }
      rw [State.setFrames_self ht]
    subst hg
    refine Or.inr ⟨q, ⟨(({ U with heap := s₂.heap, slotsUsed := s₂.slotsUsed } : State).setVm s₂.vm), Ls ++ L, c0 + mc, s0 + ms⟩,
      ⟨X.admits, X.cas, X.clock, X.frames, X.room, X.hears, X.method, X.code, (X.here.setHeapUsed s₂.heap s₂.slotsUsed).setVm hW'.alike, X.tail, State.WarmedH.trans X.warmed hW', X.limits, X.bytes, X.same.trans (hsame.setVm s.vm)⟩,
      ⟨g, mk, s₂, L, E, ce, rfl, rfl, hx, hce, hcv, hcl, rfl, hL, rfl, rfl⟩, ?_⟩
    show Steps p.tables e below _ (((({ U with heap := s₂.heap, slotsUsed := s₂.slotsUsed } : State).setVm s₂.vm).setTop g).pushFrame (.throwing q))
    rw [← hs₂]
    exact hsteps
end
variable {p : Program} {l : Launch} {e : Env} {R : Room} {s : State} {m : MethodId} {args : Array Value} {below : List Frame} {meth : Method} {c : Code} {T : State} {H : Heap} {locs : List Loc} {cells slots : Nat}
theorem vx_callVX (X : Stand p l e R s m args below meth c T locs cells slots) (hexec : p.tables.exec = Jvm.exec) {own C : String} {index : Nat} {y : MethodName} {bytes : ByteArray} {maxL : Nat} {ret : Option FieldType} {hh : List (Nat × Nat × Nat × Nat)}
    (hown : s.vm.findClass own = some m.cls) (hlink : (Cond.methodLink own index y).before args s = true) (hinst : (Cond.instanceMethod y).before args s = true) (hsel : (Cond.selects C y y).before args s = true)
    (hcode : (Cond.codeWith y bytes maxL ret hh).before args s = true) (hy : y.cls ≠ "java/lang/invoke/MethodHandle" ∧ y.cls ≠ "java/lang/invoke/VarHandle")
    {W9 : Nat} {Pre : Pt → Array Value → Prop} {Post : Pt → Array Value → Option Value → Pt → Prop} {PostX : Pt → Array Value → Addr → Pt → Prop} (hK : vx_Back l R p e below s args y 3 W9 Pre Post PostX)
    {b : Addr} {cellB : Cell} (hcell : T.heap[b]? = some cellB) (hobj : cellB.vm.isStatics = false) (hcls : s.vm.findClass C = some cellB.cls)
    {g : JFrame} (hg : g.method = m) (hsize : g.locals.size = c.maxLocals) {argsL rest : List Value} (hlen : ∀ sig, parseMethodDescriptor y.desc = some sig → argsL.length = sig.parameters.length)
    (hstack : g.stack = argsL.reverse ++ .ref b :: rest) (hW : 2 * g.monitorRoom + (rest.map fun v => v.category).sum ≤ W9) (hdg : decode c.code g.pc = .ok (.invokevirtual index, 3))
    (hpre : ∀ vm₁, s.WarmedH vm₁ → Pre ⟨T.setVm vm₁, locs, cells, slots⟩ (Value.ref b :: argsL).toArray) :
    (∃ (v : Option Value) (vm₁ : Vm) (B : Pt), s.WarmedH vm₁ ∧ Stand p l e R s m args below meth c B.U B.locs B.cells B.slots ∧ Post ⟨T.setVm vm₁, locs, cells, slots⟩ (Value.ref b :: argsL).toArray v B ∧
      ∀ target, Steps p.tables e below (B.U.setTop { g with pc := g.pc + 3, stack := v.toList ++ rest }) target → Steps p.tables e below (T.setTop g) target) ∨
    (∃ (q : Addr) (vm₁ : Vm) (B : Pt), s.WarmedH vm₁ ∧ Stand p l e R s m args below meth c B.U B.locs B.cells B.slots ∧ PostX ⟨T.setVm vm₁, locs, cells, slots⟩ (Value.ref b :: argsL).toArray q B ∧
      Steps p.tables e below (T.setTop g) ((B.U.setTop { g with stack := rest }).pushFrame (.throwing q))) := by
  obtain ⟨mk, methM, hnamed, hmethM, hstM, habM⟩ := Cond.instanceMethod_spec hinst
  obtain ⟨m8, methM', cM, hn8, hmethM', -, -, -, -, -, -, hsigM⟩ := Cond.codeWith_spec hcode
  cases Option.some.inj (hn8.symm.trans hnamed)
  cases hmethM.symm.trans hmethM'
  obtain ⟨c2, r2, m2, q1, q2, q3, q4, kP, hkP, hkPi⟩ := Cond.selects_spec hsel
  cases hcls.symm.trans q1
  cases (State.methodFound?_of_named hnamed hy).symm.trans q2
  cases hnamed.symm.trans q3
  have hselP : selectMethod e.platform s.vm cellB.cls mk = .method mk := by rw [Launch.admits_selectMethod X.admits]; exact q4
  obtain ⟨vm₁, X₁, hstep₁⟩ := X.invokevirtual hexec hown hlink hnamed hmethM hstM hkP hkPi hy (a := b) (cell := cellB) hcell
    (fun z h => by rw [h] at hobj; cases hobj) hselP hmethM habM hkP hkPi (g := g) hg (argsL := argsL) (rest := rest) (hlen _ hsigM) hstack hdg
  rcases hK m meth c ⟨T.setVm vm₁, locs, cells, slots⟩ { g with stack := rest } (.invokevirtual index) mk (Value.ref b :: argsL).toArray X₁ hg hsize hdg hW (X₁.named hnamed) (hpre vm₁ X₁.warmed) with ⟨v, B, X', hpost, hsteps⟩ | ⟨q, B, X', hpost, hsteps⟩
  · exact Or.inl ⟨v, vm₁, B, X₁.warmed, X', hpost, fun target h => hstep₁ _ fun acts => by rw [doInvoke_state]; exact hsteps.trans h⟩
  · exact Or.inr ⟨q, vm₁, B, X₁.warmed, X', hpost, hstep₁ _ fun acts => by rw [doInvoke_state]; exact hsteps⟩
theorem vx_callSX (X : Stand p l e R s m args below meth c T locs cells slots) (hexec : p.tables.exec = Jvm.exec) {own : String} {index : Nat} {y : MethodName} {bytes : ByteArray} {maxL : Nat} {ret : Option FieldType} {hh : List (Nat × Nat × Nat × Nat)}
    (hown : s.vm.findClass own = some m.cls) (hlink : (Cond.methodLink own index y).before args s = true) (hstat : (Cond.static y).before args s = true) (hinit : (Cond.initialized y.cls).before args s = true)
    (hcode : (Cond.codeWith y bytes maxL ret hh).before args s = true) (hy : y.cls ≠ "java/lang/invoke/MethodHandle" ∧ y.cls ≠ "java/lang/invoke/VarHandle")
    {W9 : Nat} {Pre : Pt → Array Value → Prop} {Post : Pt → Array Value → Option Value → Pt → Prop} {PostX : Pt → Array Value → Addr → Pt → Prop} (hK : vx_Back l R p e below s args y 3 W9 Pre Post PostX)
    {g : JFrame} (hg : g.method = m) (hsize : g.locals.size = c.maxLocals) {argsL rest : List Value} (hlen : ∀ sig, parseMethodDescriptor y.desc = some sig → argsL.length = sig.parameters.length)
    (hstack : g.stack = argsL.reverse ++ rest) (hW : 2 * g.monitorRoom + (rest.map fun v => v.category).sum ≤ W9) (hdg : decode c.code g.pc = .ok (.invokestatic index, 3))
    (hpre : ∀ vm₁, s.WarmedH vm₁ → Pre ⟨T.setVm vm₁, locs, cells, slots⟩ argsL.toArray) :
    (∃ (v : Option Value) (vm₁ : Vm) (B : Pt), s.WarmedH vm₁ ∧ Stand p l e R s m args below meth c B.U B.locs B.cells B.slots ∧ Post ⟨T.setVm vm₁, locs, cells, slots⟩ argsL.toArray v B ∧
      ∀ target, Steps p.tables e below (B.U.setTop { g with pc := g.pc + 3, stack := v.toList ++ rest }) target → Steps p.tables e below (T.setTop g) target) ∨
    (∃ (q : Addr) (vm₁ : Vm) (B : Pt), s.WarmedH vm₁ ∧ Stand p l e R s m args below meth c B.U B.locs B.cells B.slots ∧ PostX ⟨T.setVm vm₁, locs, cells, slots⟩ argsL.toArray q B ∧
      Steps p.tables e below (T.setTop g) ((B.U.setTop { g with stack := rest }).pushFrame (.throwing q))) := by
  obtain ⟨mk, methM, cM, hnamed, hmethM, -, -, -, -, -, -, hsigM⟩ := Cond.codeWith_spec hcode
  have hstatic : methM.isStatic = true := Cond.static_spec hnamed hmethM hstat
  obtain ⟨kP, hkP, -⟩ := className_of_methodNamed hnamed
  have hinitP : kP.init = .initialized := Cond.initialized_spec (findClass_of_methodNamed hnamed) hkP hinit
  obtain ⟨vm₁, X₁, hstep₁⟩ := X.invokestatic hexec hown hlink hnamed hmethM hstatic hkP hinitP hy (g := g) hg (argsL := argsL) (rest := rest) (hlen _ hsigM) hstack hdg
  rcases hK m meth c ⟨T.setVm vm₁, locs, cells, slots⟩ { g with stack := rest } (.invokestatic index) mk argsL.toArray X₁ hg hsize hdg hW (X₁.named hnamed) (hpre vm₁ X₁.warmed) with ⟨v, B, X', hpost, hsteps⟩ | ⟨q, B, X', hpost, hsteps⟩
  · exact Or.inl ⟨v, vm₁, B, X₁.warmed, X', hpost, fun target h => hstep₁ _ fun acts => by rw [doInvoke_state]; exact hsteps.trans h⟩
  · exact Or.inr ⟨q, vm₁, B, X₁.warmed, X', hpost, hstep₁ _ fun acts => by rw [doInvoke_state]; exact hsteps⟩
theorem vx_callVW (X : Stand p l e R s m args below meth c T locs cells slots) (hexec : p.tables.exec = Jvm.exec) {own C : String} {index : Nat} {y : MethodName} {bytes : ByteArray} {maxL : Nat} {ret : Option FieldType} {hh : List (Nat × Nat × Nat × Nat)}
    (hown : s.vm.findClass own = some m.cls) (hlink : (Cond.methodLink own index y).before args s = true) (hinst : (Cond.instanceMethod y).before args s = true) (hsel : (Cond.selects C y y).before args s = true)
    (hcode : (Cond.codeWith y bytes maxL ret hh).before args s = true) (hy : y.cls ≠ "java/lang/invoke/MethodHandle" ∧ y.cls ≠ "java/lang/invoke/VarHandle")
    {W9 : Nat} {Pre : Pt → Array Value → Prop} {Post : Pt → Array Value → Option Value → Pt → Prop} (hK : Back l R p e below s args y 3 W9 Pre Post)
    {b : Addr} {cellB : Cell} (hcell : T.heap[b]? = some cellB) (hobj : cellB.vm.isStatics = false) (hcls : s.vm.findClass C = some cellB.cls)
    {g : JFrame} (hg : g.method = m) (hsize : g.locals.size = c.maxLocals) {argsL rest : List Value} (hlen : ∀ sig, parseMethodDescriptor y.desc = some sig → argsL.length = sig.parameters.length)
    (hstack : g.stack = argsL.reverse ++ .ref b :: rest) (hW : 2 * g.monitorRoom + (rest.map fun v => v.category).sum ≤ W9) (hdg : decode c.code g.pc = .ok (.invokevirtual index, 3))
    (hpre : ∀ vm₁, s.WarmedH vm₁ → Pre ⟨T.setVm vm₁, locs, cells, slots⟩ (Value.ref b :: argsL).toArray) :
    ∃ (v : Option Value) (vm₁ : Vm) (B : Pt), s.WarmedH vm₁ ∧ Stand p l e R s m args below meth c B.U B.locs B.cells B.slots ∧ Post ⟨T.setVm vm₁, locs, cells, slots⟩ (Value.ref b :: argsL).toArray v B ∧
      ∀ target, Steps p.tables e below (B.U.setTop { g with pc := g.pc + 3, stack := v.toList ++ rest }) target → Steps p.tables e below (T.setTop g) target := by
  obtain ⟨mk, methM, hnamed, hmethM, hstM, habM⟩ := Cond.instanceMethod_spec hinst
  obtain ⟨m8, methM', cM, hn8, hmethM', -, -, -, -, -, -, hsigM⟩ := Cond.codeWith_spec hcode
  cases Option.some.inj (hn8.symm.trans hnamed)
  cases hmethM.symm.trans hmethM'
  obtain ⟨c2, r2, m2, q1, q2, q3, q4, kP, hkP, hkPi⟩ := Cond.selects_spec hsel
  cases hcls.symm.trans q1
  cases (State.methodFound?_of_named hnamed hy).symm.trans q2
  cases hnamed.symm.trans q3
  have hselP : selectMethod e.platform s.vm cellB.cls mk = .method mk := by rw [Launch.admits_selectMethod X.admits]; exact q4
  obtain ⟨vm₁, X₁, hstep₁⟩ := X.invokevirtual hexec hown hlink hnamed hmethM hstM hkP hkPi hy (a := b) (cell := cellB) hcell
    (fun z h => by rw [h] at hobj; cases hobj) hselP hmethM habM hkP hkPi (g := g) hg (argsL := argsL) (rest := rest) (hlen _ hsigM) hstack hdg
  obtain ⟨v, B, X', hpost, hsteps⟩ := hK m meth c ⟨T.setVm vm₁, locs, cells, slots⟩ { g with stack := rest } (.invokevirtual index) mk (Value.ref b :: argsL).toArray X₁ hg hsize hdg hW (X₁.named hnamed) (hpre vm₁ X₁.warmed)
  exact ⟨v, vm₁, B, X₁.warmed, X', hpost, fun target h => hstep₁ _ fun acts => by rw [doInvoke_state]; exact hsteps.trans h⟩
abbrev vx_CVW (R : Room) (s : State) (args : Array Value) (own C : String) (index : Nat) (y : MethodName) (bytes : ByteArray) (maxL : Nat) (ret : Option FieldType) (hh : List (Nat × Nat × Nat × Nat)) (ws : List Cond) (rm : Room) (mc ms n : Nat) : Prop :=
  (rm.cells = mc ∧ rm.slots = ms ∧ rm.frames + 1 ≤ R.frames ∧ 8 + (maxL + 11) + rm.locals ≤ R.locals ∧ (∀ w ∈ ws, ∀ (a' : Array Value) (U : State), s.WarmedH U.vm → w.before a' U = true) ∧ Cond.codeWith y bytes maxL ret hh ∈ ws) ∧
  (Cond.codeWith y bytes maxL ret hh).before args s = true ∧ (Cond.initialized y.cls).before args s = true ∧ (y.cls ≠ "java/lang/invoke/MethodHandle" ∧ y.cls ≠ "java/lang/invoke/VarHandle") ∧
  (∀ sig, parseMethodDescriptor y.desc = some sig → n = sig.parameters.length) ∧ (Cond.methodLink own index y).before args s = true ∧ (Cond.instanceMethod y).before args s = true ∧ (Cond.selects C y y).before args s = true
theorem vx_cwVW {own C : String} {index maxL mc ms : Nat} {y : MethodName} {bytes : ByteArray} {ret : Option FieldType} {hh : List (Nat × Nat × Nat × Nat)} {Ts ws ws' : List Cond} {rm : Room} (n : Nat) (ht : ∀ w ∈ Ts, w.before args s = true) (hT : GoodIn Ts (wsV own index C y ws)) (hw : ws = Cond.codeWith y bytes maxL ret hh :: ws') (hrc : rm.cells = mc) (hrs : rm.slots = ms)
    (hd : y.cls = C ∧ y.cls ≠ "java/lang/invoke/MethodHandle" ∧ y.cls ≠ "java/lang/invoke/VarHandle" ∧ (parseMethodDescriptor y.desc).map (fun d => d.parameters.length) = some n) (hR : rm.frames + 1 ≤ R.frames ∧ 8 + (maxL + 11) + rm.locals ≤ R.locals) :
    vx_CVW R s args own C index y bytes maxL ret hh ws rm mc ms n := by
  obtain ⟨hC, hd⟩ := hd
  subst hC
  have ok : ∀ w ∈ wsV own index y.cls y ws, w.before args s = true := fun w h => ht w (hT w h).1
  have hG : GoodIn Ts ws := fun w h => hT w (by unfold wsV; exact List.mem_append_right _ h)
  have hc : Cond.codeWith y bytes maxL ret hh ∈ ws := by rw [hw]; exact List.mem_cons_self
  refine ⟨⟨hrc, hrs, hR.1, hR.2, pay_in ht hG, hc⟩, ht _ (hG _ hc).1, ok _ (by simp [wsV]), ⟨hd.1, hd.2.1⟩, fun sig h => ?_, ok _ (by simp [wsV]), ok _ (by simp [wsV]), ok _ (by simp [wsV])⟩
  have h2 := hd.2.2
  rw [h] at h2
  exact (Option.some.inj h2).symm
theorem vx_runVW {y : MethodName} {bytes cc : ByteArray} {maxL nL mc ms n index : Nat} {ret : Option FieldType} {hh : List (Nat × Nat × Nat × Nat)} {ws : List Cond} {rm : Room} {Pc : Array Value → State → Prop} {Qc : Array Value → State → Outcome → State → Prop} {free : Addr → Prop} {Ts : List Cond} {own C : String} {b : Addr} {As rest : List Value} {g : JFrame}
    (S : CallFix p m c cc nL s args Ts own) (hM : Met l y ws rm Pc Qc mc ms free) (cw : vx_CVW R s args own C index y bytes maxL ret hh ws rm mc ms n) (hp : PreV s H C b Pc As)
    (hg : g.method = m) (hn : As.length = n) (hsize : g.locals.size = nL) (hstack : g.stack = As.reverse ++ .ref b :: rest) (hW : 2 * g.monitorRoom + (rest.map fun v => v.category).sum ≤ 8) (hdg : decode cc g.pc = .ok (.invokevirtual index, 3)) (hf : cells + mc ≤ R.cells ∧ slots + ms ≤ R.slots) :
    va_Run p l e R s m args below meth c H locs cells slots mc ms g rest (Qc (Value.ref b :: As).toArray) free := by
  obtain ⟨⟨hrc, hrs, hfr, hlo, hws, hcw⟩, hcode, hini, hy, hlen, hl, hin, hse⟩ := cw
  have hK : Back l R p e below s args y 3 8 (PreOf R mc ms Pc) (PostOf Qc mc ms free) := va_backW (hh := hh) (bytes := bytes) (maxL := maxL) (ret := ret) hM hp.1 hrc hrs hfr hlo hws hcw (fun a' U hW => word_at hW (Or.inl (by first | rfl | simp [Cond.onTables, Cond.keeps, Cond.steady])) hini)
  obtain ⟨hx, hb, hml, ho, -⟩ := S
  obtain ⟨-, ⟨cellB, hcB, hoB, hclB⟩, hPc⟩ := hp
  intro T hT X
  obtain ⟨v, vm₁, ⟨U', l2, c2, s2⟩, hW₁, X', ⟨g', mk, t, L, e1, e2, hq, h1, hL, h2, h3⟩, st⟩ := vx_callVW X hx (C := C) (hh := hh) (bytes := bytes) (maxL := maxL) (ret := ret) ho hl hin hse hcode hy hK (by rw [hT]; exact hcB) hoB hclB hg (hsize.trans hml.symm) (argsL := As) (rest := rest) (fun sig h => hn.trans (hlen sig h)) hstack hW (by rw [hb]; exact hdg)
    (fun vm₁ hW₁ => ⟨hf.1, hf.2, hPc (T.setVm vm₁) hT hW₁⟩)
  dsimp only [Pt.U, Pt.locs, Pt.cells, Pt.slots] at X' e1 e2 h1 h2 h3 st
  subst h1; subst h2; subst h3
  exact ⟨v, (T.setVm vm₁).calling g' mk (Value.ref b :: As).toArray, t, U', L, hT, X', hL, e1, e2, hq, st⟩
section
variable {y : MethodName} {bytes cc : ByteArray} {maxL nL mc ms n index : Nat} {ret : Option FieldType} {ws : List Cond} {rm : Room} {Pc : Array Value → State → Prop} {Qc : Array Value → State → Outcome → State → Prop} {XC : String → State → State → Prop} {free : Addr → Prop} {Ts : List Cond} {own C : String} {b : Addr} {As rest : List Value} {g : JFrame}
theorem vx_runVX {hh : List (Nat × Nat × Nat × Nat)} (S : CallFix p m c cc nL s args Ts own) (hM : vx_Met l y ws rm Pc Qc XC mc ms free) (cw : vx_CVW R s args own C index y bytes maxL ret hh ws rm mc ms n) (hp : PreV s H C b Pc As)
    (hg : g.method = m) (hn : As.length = n) (hsize : g.locals.size = nL) (hstack : g.stack = As.reverse ++ .ref b :: rest) (hW : 2 * g.monitorRoom + (rest.map fun v => v.category).sum ≤ 8) (hdg : decode cc g.pc = .ok (.invokevirtual index, 3)) (hf : cells + mc ≤ R.cells ∧ slots + ms ≤ R.slots) :
    vx_Run p l e R s m args below meth c H locs cells slots mc ms g rest (Qc (Value.ref b :: As).toArray) XC free := by
  obtain ⟨⟨hrc, hrs, hfr, hlo, hws, hcw⟩, hcode, hini, hy, hlen, hl, hin, hse⟩ := cw
  have hK : vx_Back l R p e below s args y 3 8 (PreOf R mc ms Pc) (PostOf Qc mc ms free) (vx_Post XC mc ms free) := vx_backW (hh := hh) (bytes := bytes) (maxL := maxL) (ret := ret) hM hp.1 hrc hrs hfr hlo hws hcw (fun a' U hW => word_at hW (Or.inl (by first | rfl | simp [Cond.onTables, Cond.keeps, Cond.steady])) hini)
  obtain ⟨hx, hb, hml, ho, -⟩ := S
  obtain ⟨-, ⟨cellB, hcB, hoB, hclB⟩, hPc⟩ := hp
  intro T hT X
  rcases vx_callVX X hx (C := C) (hh := hh) (bytes := bytes) (maxL := maxL) (ret := ret) ho hl hin hse hcode hy hK (by rw [hT]; exact hcB) hoB hclB hg (hsize.trans hml.symm) (argsL := As) (rest := rest) (fun sig h => hn.trans (hlen sig h)) hstack hW (by rw [hb]; exact hdg)
    (fun vm₁ hW₁ => ⟨hf.1, hf.2, hPc (T.setVm vm₁) hT hW₁⟩) with ⟨v, vm₁, ⟨U', l2, c2, s2⟩, hW₁, X', ⟨g', mk, t, L, e1, e2, hq, h1, hL, h2, h3⟩, st⟩ | ⟨q, vm₁, ⟨U', l2, c2, s2⟩, hW₁, X', ⟨g', mk, t, L, E, ce, e1, e2, hq, hce, hcv, hcl, h1, hL, h2, h3⟩, st⟩
  · dsimp only [Pt.U, Pt.locs, Pt.cells, Pt.slots] at X' e1 e2 h1 h2 h3 st
    subst h1; subst h2; subst h3
    exact Or.inl ⟨v, (T.setVm vm₁).calling g' mk (Value.ref b :: As).toArray, t, U', L, hT, X', hL, e1, e2, hq, st⟩
  · dsimp only [Pt.U, Pt.locs, Pt.cells, Pt.slots] at X' e1 e2 h1 h2 h3 st hcl
    subst h1; subst h2; subst h3
    exact Or.inr ⟨q, (T.setVm vm₁).calling g' mk (Value.ref b :: As).toArray, t, U', L, E, ce, hT, X', hL, e1, e2, hq, hce, hcv, vx_cls hW₁ hcl, st⟩
theorem vx_runSX {hh : List (Nat × Nat × Nat × Nat)} (S : CallFix p m c cc nL s args Ts own) (hM : vx_Met l y ws rm Pc Qc XC mc ms free) (cw : vx_CSW R s args own index y bytes maxL ret hh ws rm mc ms n) (hp : PreS s H Pc As)
    (hg : g.method = m) (hn : As.length = n) (hsize : g.locals.size = nL) (hstack : g.stack = As.reverse ++ rest) (hW : 2 * g.monitorRoom + (rest.map fun v => v.category).sum ≤ 8) (hdg : decode cc g.pc = .ok (.invokestatic index, 3)) (hf : cells + mc ≤ R.cells ∧ slots + ms ≤ R.slots) :
    vx_Run p l e R s m args below meth c H locs cells slots mc ms g rest (Qc As.toArray) XC free := by
  obtain ⟨⟨hrc, hrs, hfr, hlo, hws, hcw⟩, hcode, hini, hy, hlen, hl, hstt⟩ := cw
  have hK : vx_Back l R p e below s args y 3 8 (PreOf R mc ms Pc) (PostOf Qc mc ms free) (vx_Post XC mc ms free) := vx_backW (hh := hh) (bytes := bytes) (maxL := maxL) (ret := ret) hM hp.1 hrc hrs hfr hlo hws hcw (fun a' U hW => word_at hW (Or.inl (by first | rfl | simp [Cond.onTables, Cond.keeps, Cond.steady])) hini)
  obtain ⟨hx, hb, hml, ho, -⟩ := S
  intro T hT X
  rcases vx_callSX X hx (hh := hh) (bytes := bytes) (maxL := maxL) (ret := ret) ho hl hstt hini hcode hy hK hg (hsize.trans hml.symm) (argsL := As) (rest := rest) (fun sig h => hn.trans (hlen sig h)) hstack hW (by rw [hb]; exact hdg)
    (fun vm₁ hW₁ => ⟨hf.1, hf.2, hp.2 (T.setVm vm₁) hT hW₁⟩) with ⟨v, vm₁, ⟨U', l2, c2, s2⟩, hW₁, X', ⟨g', mk, t, L, e1, e2, hq, h1, hL, h2, h3⟩, st⟩ | ⟨q, vm₁, ⟨U', l2, c2, s2⟩, hW₁, X', ⟨g', mk, t, L, E, ce, e1, e2, hq, hce, hcv, hcl, h1, hL, h2, h3⟩, st⟩
  · dsimp only [Pt.U, Pt.locs, Pt.cells, Pt.slots] at X' e1 e2 h1 h2 h3 st
    subst h1; subst h2; subst h3
    exact Or.inl ⟨v, (T.setVm vm₁).calling g' mk As.toArray, t, U', L, hT, X', hL, e1, e2, hq, st⟩
  · dsimp only [Pt.U, Pt.locs, Pt.cells, Pt.slots] at X' e1 e2 h1 h2 h3 st hcl
    subst h1; subst h2; subst h3
    exact Or.inr ⟨q, (T.setVm vm₁).calling g' mk As.toArray, t, U', L, E, ce, hT, X', hL, e1, e2, hq, hce, hcv, vx_cls hW₁ hcl, st⟩
end
end VXH
theorem vx_ofWH {l : Launch} {y : MethodName} {ws ws' : List Cond} {rm : Room} {Pc : Array Value → State → Prop} {Qc : Array Value → State → Outcome → State → Prop} {XC : String → State → State → Prop} {mc ms : Nat} {free : Addr → Prop} {cc : ByteArray} {maxL : Nat} {ret : Option FieldType} {hh : List (Nat × Nat × Nat × Nat)}
    (hy : plainName y.cls = true) (hw : ws = Cond.codeWith y cc maxL ret hh :: ws')
    (body : ∀ p e s m args below meth c s₁, BodyLoose p l y (headSpec ws rm) cc maxL ret e s m args below meth c s₁ → c.maxLocals = maxL → Pc args s →
      W p l e (headSpec ws rm).room s m args below meth c s.heap [] 0 0 (vx_MQ below Qc XC args s mc ms free) (entryFrame m args maxL)) : vx_Met l y ws rm Pc Qc XC mc ms free := by
  refine MetFree.of_bodyS (code := cc) (maxLocals := maxL) (ret := ret) hy ?_ ?_
  · intro args s m h hn
    obtain ⟨m9, meth, c, hn9, h1, h2, h3, h4, -, h5, h6, -⟩ := Cond.codeWith_spec (atoms_spec (ws := ws) h _ (by rw [hw]; exact List.mem_cons_self))
    cases hn.symm.trans hn9
    exact ⟨meth, c, h1, h2, h3, h4, h5, h6⟩
  · intro p e s m args below meth c s₁ B hml hP _
    have hh0 : s₁.heap = s.heap := by rw [B.state]; rfl
    obtain ⟨t, a1, o, b1, b2, b3⟩ := body p e s m args below meth c s₁ B hml hP s₁ hh0 (Stand.of_body B)
    exact ⟨t, o, a1, b1, b2, b3⟩
/-! ===== END ===== -/
end
section
/-! ===== BEGIN printed: names, fields, word lists, decode rows ===== -/
def RX0 : String := "GridInverter$Inverter"
def TX0 : u_T := fun k => match k with
  | 0 => ("GridInverter$Inverter", "mode", "I", false)
  | 1 => ("GridInverter$Inverter", "power", "I", false)
  | 2 => ("GridInverter$Inverter", "rating", "I", false)
  | 3 => ("GridInverter$Inverter", "delay", "I", false)
  | 4 => ("GridInverter$Inverter", "ramp", "I", false)
  | 5 => ("GridInverter$Inverter", "readyCount", "I", false)
  | 6 => ("GridInverter$Inverter", "lowVoltage", "I", false)
  | 7 => ("GridInverter$Inverter", "highVoltage", "I", false)
  | 8 => ("GridInverter$Inverter", "lowFrequency", "I", false)
  | 9 => ("GridInverter$Inverter", "highFrequency", "I", false)
  | 10 => ("GridInverter$Inverter", "shift", "I", false)
  | 11 => ("GridInverter$Inverter", "gain", "I", false)
  | 12 => ("GridInverter$Inverter", "energy", "J", false)
  | _ => ("GridInverter$Inverter", "runningTicks", "I", false)
def tyX0 : Nat → FieldType := fun k => match k with
  | 0 => .int
  | 1 => .int
  | 2 => .int
  | 3 => .int
  | 4 => .int
  | 5 => .int
  | 6 => .int
  | 7 => .int
  | 8 => .int
  | 9 => .int
  | 10 => .int
  | 11 => .int
  | 12 => .long
  | _ => .int
abbrev wsX00 : List Cond := u_ws RX0 TX0 14
theorem nmX0 : ∀ a, a < 14 → ∀ b, b < 14 → a ≠ b → (TX0 a).2.1 ≠ (TX0 b).2.1 := by decide +kernel
theorem tyX0_ok : ∀ k, k < 14 → parseFieldDescriptor (TX0 k).2.2.1 = some (tyX0 k) := by decide +kernel
abbrev cX0_init : ByteArray := prog_2_method_1_code
def yX0_init : MethodName := ⟨RX0, "<init>", "()V"⟩
abbrev cX0_leaveStop : ByteArray := prog_2_method_2_code
def yX0_leaveStop : MethodName := ⟨RX0, "leaveStop", "()Z"⟩
abbrev cX0_drifted : ByteArray := prog_2_method_3_code
def yX0_drifted : MethodName := ⟨RX0, "drifted", "(I)I"⟩
abbrev cX0_admits : ByteArray := prog_2_method_4_code
def yX0_admits : MethodName := ⟨RX0, "admits", "(II)Z"⟩
abbrev cX0_raisePower : ByteArray := prog_2_method_5_code
def yX0_raisePower : MethodName := ⟨RX0, "raisePower", "()V"⟩
abbrev cX0_account : ByteArray := prog_2_method_6_code
def yX0_account : MethodName := ⟨RX0, "account", "()V"⟩
abbrev cX0_takeFrom : ByteArray := prog_2_method_7_code
def yX0_takeFrom : MethodName := ⟨RX0, "takeFrom", "(LGridInverter$Inverter;)V"⟩
def RX1 : String := "GridInverter$Line"
def TX1 : u_T := fun k => match k with
  | 0 => ("GridInverter$Line", "voltage", "I", false)
  | 1 => ("GridInverter$Line", "frequency", "I", false)
  | 2 => ("GridInverter$Line", "angle", "I", false)
  | 3 => ("GridInverter$Line", "connected", "Z", false)
  | 4 => ("GridInverter$Line", "gridVoltage", "I", false)
  | 5 => ("GridInverter$Line", "gridFrequency", "I", false)
  | 6 => ("GridInverter$Line", "load", "I", false)
  | 7 => ("GridInverter$Line", "resonance", "I", false)
  | _ => ("GridInverter$Line", "quality", "I", false)
def tyX1 : Nat → FieldType := fun k => match k with
  | 0 => .int
  | 1 => .int
  | 2 => .int
  | 3 => .boolean
  | 4 => .int
  | 5 => .int
  | 6 => .int
  | 7 => .int
  | _ => .int
abbrev wsX10 : List Cond := u_ws RX1 TX1 9
theorem nmX1 : ∀ a, a < 9 → ∀ b, b < 9 → a ≠ b → (TX1 a).2.1 ≠ (TX1 b).2.1 := by decide +kernel
theorem tyX1_ok : ∀ k, k < 9 → parseFieldDescriptor (TX1 k).2.2.1 = some (tyX1 k) := by decide +kernel
abbrev cX1_init : ByteArray := prog_3_method_1_code
def yX1_init : MethodName := ⟨RX1, "<init>", "()V"⟩
abbrev cX1_becomeIsland : ByteArray := prog_3_method_2_code
def yX1_becomeIsland : MethodName := ⟨RX1, "becomeIsland", "(III)V"⟩
abbrev cX1_turn : ByteArray := prog_3_method_3_code
def yX1_turn : MethodName := ⟨RX1, "turn", "(I)V"⟩
abbrev cX1_settle : ByteArray := prog_3_method_4_code
def yX1_settle : MethodName := ⟨RX1, "settle", "(II)V"⟩
abbrev cX1_islandVoltage : ByteArray := prog_3_method_5_code
def yX1_islandVoltage : MethodName := ⟨RX1, "islandVoltage", "(I)I"⟩
abbrev cX1_islandFrequency : ByteArray := prog_3_method_6_code
def yX1_islandFrequency : MethodName := ⟨RX1, "islandFrequency", "(I)I"⟩
abbrev cX1_takeFrom : ByteArray := prog_3_method_7_code
def yX1_takeFrom : MethodName := ⟨RX1, "takeFrom", "(LGridInverter$Line;)V"⟩
def RX2 : String := "GridInverter$Log"
def TX2 : u_T := fun k => match k with
  | 0 => ("GridInverter$Log", "size", "I", false)
  | 1 => ("GridInverter$Log", "times", "[I", true)
  | _ => ("GridInverter$Log", "causes", "[I", true)
def tyX2 : Nat → FieldType := fun k => match k with
  | 0 => .int
  | 1 => .array .int
  | _ => .array .int
abbrev wsX20 : List Cond := u_ws RX2 TX2 3
theorem nmX2 : ∀ a, a < 3 → ∀ b, b < 3 → a ≠ b → (TX2 a).2.1 ≠ (TX2 b).2.1 := by decide +kernel
theorem tyX2_ok : ∀ k, k < 3 → parseFieldDescriptor (TX2 k).2.2.1 = some (tyX2 k) := by decide +kernel
abbrev cX2_init : ByteArray := prog_4_method_1_code
def yX2_init : MethodName := ⟨RX2, "<init>", "()V"⟩
abbrev cX2_append : ByteArray := prog_4_method_2_code
def yX2_append : MethodName := ⟨RX2, "append", "(II)V"⟩
abbrev cX2_timeOf : ByteArray := prog_4_method_3_code
def yX2_timeOf : MethodName := ⟨RX2, "timeOf", "(I)I"⟩
abbrev cX2_causeOf : ByteArray := prog_4_method_4_code
def yX2_causeOf : MethodName := ⟨RX2, "causeOf", "(I)I"⟩
abbrev cX2_isKept : ByteArray := prog_4_method_5_code
def yX2_isKept : MethodName := ⟨RX2, "isKept", "(I)Z"⟩
abbrev cX2_takeFrom : ByteArray := prog_4_method_6_code
def yX2_takeFrom : MethodName := ⟨RX2, "takeFrom", "(LGridInverter$Log;)V"⟩
def RX3 : String := "GridInverter$Loop"
def TX3 : u_T := fun k => match k with
  | 0 => ("GridInverter$Loop", "angle", "I", false)
  | 1 => ("GridInverter$Loop", "frequency", "I", false)
  | 2 => ("GridInverter$Loop", "error", "I", false)
  | 3 => ("GridInverter$Loop", "kp", "I", false)
  | 4 => ("GridInverter$Loop", "ki", "I", false)
  | 5 => ("GridInverter$Loop", "tolerance", "I", false)
  | 6 => ("GridInverter$Loop", "lockTime", "I", false)
  | 7 => ("GridInverter$Loop", "lockCount", "I", false)
  | _ => ("GridInverter$Loop", "past", "[I", true)
def tyX3 : Nat → FieldType := fun k => match k with
  | 0 => .int
  | 1 => .int
  | 2 => .int
  | 3 => .int
  | 4 => .int
  | 5 => .int
  | 6 => .int
  | 7 => .int
  | _ => .array .int
abbrev wsX30 : List Cond := u_ws RX3 TX3 9
theorem nmX3 : ∀ a, a < 9 → ∀ b, b < 9 → a ≠ b → (TX3 a).2.1 ≠ (TX3 b).2.1 := by decide +kernel
theorem tyX3_ok : ∀ k, k < 9 → parseFieldDescriptor (TX3 k).2.2.1 = some (tyX3 k) := by decide +kernel
abbrev cX3_init : ByteArray := prog_5_method_1_code
def yX3_init : MethodName := ⟨RX3, "<init>", "()V"⟩
abbrev cX3_follow : ByteArray := prog_5_method_2_code
def yX3_follow : MethodName := ⟨RX3, "follow", "(II)V"⟩
abbrev cX3_changeUntil : ByteArray := prog_5_method_3_code
def yX3_changeUntil : MethodName := ⟨RX3, "changeUntil", "(I)I"⟩
abbrev cX3_holdsLock : ByteArray := prog_5_method_4_code
def yX3_holdsLock : MethodName := ⟨RX3, "holdsLock", "()Z"⟩
abbrev cX3_takeFrom : ByteArray := prog_5_method_5_code
def yX3_takeFrom : MethodName := ⟨RX3, "takeFrom", "(LGridInverter$Loop;)V"⟩
def RX4 : String := "GridInverter$Rules"
def TX4 : u_T := fun k => match k with
  | 0 => ("GridInverter$Rules", "size", "I", false)
  | 1 => ("GridInverter$Rules", "kinds", "[I", true)
  | 2 => ("GridInverter$Rules", "thresholds", "[I", true)
  | 3 => ("GridInverter$Rules", "durations", "[I", true)
  | _ => ("GridInverter$Rules", "counts", "[I", true)
def tyX4 : Nat → FieldType := fun k => match k with
  | 0 => .int
  | 1 => .array .int
  | 2 => .array .int
  | 3 => .array .int
  | _ => .array .int
abbrev wsX40 : List Cond := u_ws RX4 TX4 5
theorem nmX4 : ∀ a, a < 5 → ∀ b, b < 5 → a ≠ b → (TX4 a).2.1 ≠ (TX4 b).2.1 := by decide +kernel
theorem tyX4_ok : ∀ k, k < 5 → parseFieldDescriptor (TX4 k).2.2.1 = some (tyX4 k) := by decide +kernel
abbrev cX4_init : ByteArray := prog_6_method_1_code
def yX4_init : MethodName := ⟨RX4, "<init>", "()V"⟩
abbrev cX4_append : ByteArray := prog_6_method_2_code
def yX4_append : MethodName := ⟨RX4, "append", "(III)I"⟩
abbrev cX4_countOf : ByteArray := prog_6_method_3_code
def yX4_countOf : MethodName := ⟨RX4, "countOf", "(I)I"⟩
abbrev cX4_countViolations : ByteArray := prog_6_method_4_code
def yX4_countViolations : MethodName := ⟨RX4, "countViolations", "(III)I"⟩
abbrev cX4_isViolated : ByteArray := prog_6_method_5_code
def yX4_isViolated : MethodName := ⟨RX4, "isViolated", "(IIIII)Z"⟩
abbrev cX4_forgetViolations : ByteArray := prog_6_method_6_code
def yX4_forgetViolations : MethodName := ⟨RX4, "forgetViolations", "()V"⟩
abbrev cX4_takeFrom : ByteArray := prog_6_method_7_code
def yX4_takeFrom : MethodName := ⟨RX4, "takeFrom", "(LGridInverter$Rules;)V"⟩
def RX5 : String := "GridInverter$Simulation"
def TX5 : u_T := fun k => match k with
  | 0 => ("GridInverter$Simulation", "time", "I", false)
  | 1 => ("GridInverter$Simulation", "line", "LGridInverter$Line;", true)
  | 2 => ("GridInverter$Simulation", "loop", "LGridInverter$Loop;", true)
  | 3 => ("GridInverter$Simulation", "inverter", "LGridInverter$Inverter;", true)
  | 4 => ("GridInverter$Simulation", "rules", "LGridInverter$Rules;", true)
  | _ => ("GridInverter$Simulation", "log", "LGridInverter$Log;", true)
def tyX5 : Nat → FieldType := fun k => match k with
  | 0 => .int
  | 1 => .object "GridInverter$Line"
  | 2 => .object "GridInverter$Loop"
  | 3 => .object "GridInverter$Inverter"
  | 4 => .object "GridInverter$Rules"
  | _ => .object "GridInverter$Log"
abbrev wsX50 : List Cond := u_ws RX5 TX5 6
theorem nmX5 : ∀ a, a < 6 → ∀ b, b < 6 → a ≠ b → (TX5 a).2.1 ≠ (TX5 b).2.1 := by decide +kernel
theorem tyX5_ok : ∀ k, k < 6 → parseFieldDescriptor (TX5 k).2.2.1 = some (tyX5 k) := by decide +kernel
abbrev cX5_init : ByteArray := prog_7_method_1_code
def yX5_init : MethodName := ⟨RX5, "<init>", "()V"⟩
abbrev cX5_tick : ByteArray := prog_7_method_2_code
def yX5_tick : MethodName := ⟨RX5, "tick", "()V"⟩
abbrev cX5_protect : ByteArray := prog_7_method_3_code
def yX5_protect : MethodName := ⟨RX5, "protect", "(I)V"⟩
abbrev cX5_prepare : ByteArray := prog_7_method_4_code
def yX5_prepare : MethodName := ⟨RX5, "prepare", "()V"⟩
abbrev cX5_trip : ByteArray := prog_7_method_5_code
def yX5_trip : MethodName := ⟨RX5, "trip", "(I)V"⟩
abbrev cX5_stopByCall : ByteArray := prog_7_method_6_code
def yX5_stopByCall : MethodName := ⟨RX5, "stopByCall", "()Z"⟩
abbrev cX5_takeFrom : ByteArray := prog_7_method_7_code
def yX5_takeFrom : MethodName := ⟨RX5, "takeFrom", "(LGridInverter$Simulation;)V"⟩
def RX6 : String := "GridInverter"
def TX6 : u_T := fun k => match k with
  | 0 => ("GridInverter", "present", "LGridInverter$Simulation;", true)
  | 1 => ("GridInverter", "trial", "LGridInverter$Simulation;", true)
  | _ => ("GridInverter", "slots", "[LGridInverter$Simulation;", true)
def tyX6 : Nat → FieldType := fun k => match k with
  | 0 => .object "GridInverter$Simulation"
  | 1 => .object "GridInverter$Simulation"
  | _ => .array (.object "GridInverter$Simulation")
abbrev wsX60 : List Cond := u_ws RX6 TX6 3
theorem nmX6 : ∀ a, a < 3 → ∀ b, b < 3 → a ≠ b → (TX6 a).2.1 ≠ (TX6 b).2.1 := by decide +kernel
theorem tyX6_ok : ∀ k, k < 3 → parseFieldDescriptor (TX6 k).2.2.1 = some (tyX6 k) := by decide +kernel
abbrev cX6_init : ByteArray := prog_1_method_1_code
def yX6_init : MethodName := ⟨RX6, "<init>", "()V"⟩
abbrev cX6_setGrid : ByteArray := prog_1_method_2_code
def yX6_setGrid : MethodName := ⟨RX6, "setGrid", "(II)V"⟩
abbrev cX6_jump : ByteArray := prog_1_method_3_code
def yX6_jump : MethodName := ⟨RX6, "jump", "(I)I"⟩
abbrev cX6_connect : ByteArray := prog_1_method_4_code
def yX6_connect : MethodName := ⟨RX6, "connect", "(Z)Z"⟩
abbrev cX6_setLoad : ByteArray := prog_1_method_5_code
def yX6_setLoad : MethodName := ⟨RX6, "setLoad", "(III)V"⟩
abbrev cX6_setLoop : ByteArray := prog_1_method_6_code
def yX6_setLoop : MethodName := ⟨RX6, "setLoop", "(II)V"⟩
abbrev cX6_setLock : ByteArray := prog_1_method_7_code
def yX6_setLock : MethodName := ⟨RX6, "setLock", "(II)V"⟩
abbrev cX6_setWindow : ByteArray := prog_1_method_8_code
def yX6_setWindow : MethodName := ⟨RX6, "setWindow", "(IIII)V"⟩
abbrev cX6_setPower : ByteArray := prog_1_method_9_code
def yX6_setPower : MethodName := ⟨RX6, "setPower", "(III)V"⟩
abbrev cX6_setDrift : ByteArray := prog_1_method_10_code
def yX6_setDrift : MethodName := ⟨RX6, "setDrift", "(II)V"⟩
abbrev cX6_addRule : ByteArray := prog_1_method_11_code
def yX6_addRule : MethodName := ⟨RX6, "addRule", "(III)I"⟩
abbrev cX6_clearRules : ByteArray := prog_1_method_12_code
def yX6_clearRules : MethodName := ⟨RX6, "clearRules", "()I"⟩
abbrev cX6_start : ByteArray := prog_1_method_13_code
def yX6_start : MethodName := ⟨RX6, "start", "()Z"⟩
abbrev cX6_stop : ByteArray := prog_1_method_14_code
def yX6_stop : MethodName := ⟨RX6, "stop", "()Z"⟩
abbrev cX6_advance : ByteArray := prog_1_method_15_code
def yX6_advance : MethodName := ⟨RX6, "advance", "(I)I"⟩
abbrev cX6_state : ByteArray := prog_1_method_16_code
def yX6_state : MethodName := ⟨RX6, "state", "()I"⟩
abbrev cX6_isLocked : ByteArray := prog_1_method_17_code
def yX6_isLocked : MethodName := ⟨RX6, "isLocked", "()Z"⟩
abbrev cX6_measure : ByteArray := prog_1_method_18_code
def yX6_measure : MethodName := ⟨RX6, "measure", "(I)I"⟩
abbrev cX6_violations : ByteArray := prog_1_method_19_code
def yX6_violations : MethodName := ⟨RX6, "violations", "(I)I"⟩
abbrev cX6_energy : ByteArray := prog_1_method_20_code
def yX6_energy : MethodName := ⟨RX6, "energy", "()J"⟩
abbrev cX6_availability : ByteArray := prog_1_method_21_code
def yX6_availability : MethodName := ⟨RX6, "availability", "()D"⟩
abbrev cX6_events : ByteArray := prog_1_method_22_code
def yX6_events : MethodName := ⟨RX6, "events", "()I"⟩
abbrev cX6_event : ByteArray := prog_1_method_23_code
def yX6_event : MethodName := ⟨RX6, "event", "(II)I"⟩
abbrev cX6_islandTime : ByteArray := prog_1_method_24_code
def yX6_islandTime : MethodName := ⟨RX6, "islandTime", "(IIII)I"⟩
abbrev cX6_undetected : ByteArray := prog_1_method_25_code
def yX6_undetected : MethodName := ⟨RX6, "undetected", "(IIII)I"⟩
abbrev cX6_relockTime : ByteArray := prog_1_method_26_code
def yX6_relockTime : MethodName := ⟨RX6, "relockTime", "(II)I"⟩
abbrev cX6_save : ByteArray := prog_1_method_27_code
def yX6_save : MethodName := ⟨RX6, "save", "(I)V"⟩
abbrev cX6_restore : ByteArray := prog_1_method_28_code
def yX6_restore : MethodName := ⟨RX6, "restore", "(I)V"⟩
abbrev cX6_ticksToDetect : ByteArray := prog_1_method_29_code
def yX6_ticksToDetect : MethodName := ⟨RX6, "ticksToDetect", "(IIII)I"⟩
abbrev cX6_badIsland : ByteArray := prog_1_method_30_code
def yX6_badIsland : MethodName := ⟨RX6, "badIsland", "(III)Z"⟩
abbrev cX6_outside : ByteArray := prog_1_method_31_code
def yX6_outside : MethodName := ⟨RX6, "outside", "(III)Z"⟩
abbrev cX6_limitedFrequency : ByteArray := prog_1_method_32_code
def yX6_limitedFrequency : MethodName := ⟨RX6, "limitedFrequency", "(I)I"⟩
abbrev cX6_copyRow : ByteArray := prog_1_method_33_code
def yX6_copyRow : MethodName := ⟨RX6, "copyRow", "([I[I)V"⟩
def RX7 : String := "GridInverterModel"
def TX7 : u_T := fun k => match k with
  | 0 => ("GridInverterModel", "at", "[I", true)
  | 1 => ("GridInverterModel", "energy", "J", false)
  | 2 => ("GridInverterModel", "aside", "[I", true)
  | 3 => ("GridInverterModel", "slots", "[I", true)
  | 4 => ("GridInverterModel", "slotEnergy", "[J", true)
  | 5 => ("GridInverterModel", "isSaved", "[Z", true)
  | _ => ("GridInverterModel", "thrown", "I", false)
def tyX7 : Nat → FieldType := fun k => match k with
  | 0 => .array .int
  | 1 => .long
  | 2 => .array .int
  | 3 => .array .int
  | 4 => .array .long
  | 5 => .array .boolean
  | _ => .int
abbrev wsX70 : List Cond := u_ws RX7 TX7 7
theorem nmX7 : ∀ a, a < 7 → ∀ b, b < 7 → a ≠ b → (TX7 a).2.1 ≠ (TX7 b).2.1 := by decide +kernel
theorem tyX7_ok : ∀ k, k < 7 → parseFieldDescriptor (TX7 k).2.2.1 = some (tyX7 k) := by decide +kernel
abbrev cX7_init : ByteArray := prog_9_method_1_code
def yX7_init : MethodName := ⟨RX7, "<init>", "()V"⟩
abbrev cX7_thrown : ByteArray := prog_9_method_2_code
def yX7_thrown : MethodName := ⟨RX7, "thrown", "()I"⟩
abbrev cX7_in : ByteArray := prog_9_method_3_code
def yX7_in : MethodName := ⟨RX7, "in", "(III)Z"⟩
abbrev cX7_round : ByteArray := prog_9_method_4_code
def yX7_round : MethodName := ⟨RX7, "round", "(I)I"⟩
abbrev cX7_limited : ByteArray := prog_9_method_5_code
def yX7_limited : MethodName := ⟨RX7, "limited", "(III)I"⟩
abbrev cX7_setGrid : ByteArray := prog_9_method_6_code
def yX7_setGrid : MethodName := ⟨RX7, "setGrid", "(II)V"⟩
abbrev cX7_jump : ByteArray := prog_9_method_7_code
def yX7_jump : MethodName := ⟨RX7, "jump", "(I)I"⟩
abbrev cX7_connect : ByteArray := prog_9_method_8_code
def yX7_connect : MethodName := ⟨RX7, "connect", "(Z)Z"⟩
abbrev cX7_isIsland : ByteArray := prog_9_method_9_code
def yX7_isIsland : MethodName := ⟨RX7, "isIsland", "(III)Z"⟩
abbrev cX7_becomeIsland : ByteArray := prog_9_method_10_code
def yX7_becomeIsland : MethodName := ⟨RX7, "becomeIsland", "(III)V"⟩
abbrev cX7_setLoad : ByteArray := prog_9_method_11_code
def yX7_setLoad : MethodName := ⟨RX7, "setLoad", "(III)V"⟩
abbrev cX7_setLoop : ByteArray := prog_9_method_12_code
def yX7_setLoop : MethodName := ⟨RX7, "setLoop", "(II)V"⟩
abbrev cX7_setLock : ByteArray := prog_9_method_13_code
def yX7_setLock : MethodName := ⟨RX7, "setLock", "(II)V"⟩
abbrev cX7_setWindow : ByteArray := prog_9_method_14_code
def yX7_setWindow : MethodName := ⟨RX7, "setWindow", "(IIII)V"⟩
abbrev cX7_setPower : ByteArray := prog_9_method_15_code
def yX7_setPower : MethodName := ⟨RX7, "setPower", "(III)V"⟩
abbrev cX7_setDrift : ByteArray := prog_9_method_16_code
def yX7_setDrift : MethodName := ⟨RX7, "setDrift", "(II)V"⟩
abbrev cX7_addRule : ByteArray := prog_9_method_17_code
def yX7_addRule : MethodName := ⟨RX7, "addRule", "(III)I"⟩
abbrev cX7_clearRules : ByteArray := prog_9_method_18_code
def yX7_clearRules : MethodName := ⟨RX7, "clearRules", "()I"⟩
abbrev cX7_note : ByteArray := prog_9_method_19_code
def yX7_note : MethodName := ⟨RX7, "note", "(I)V"⟩
abbrev cX7_start : ByteArray := prog_9_method_20_code
def yX7_start : MethodName := ⟨RX7, "start", "()Z"⟩
abbrev cX7_stop : ByteArray := prog_9_method_21_code
def yX7_stop : MethodName := ⟨RX7, "stop", "()Z"⟩
abbrev cX7_feedLine : ByteArray := prog_9_method_22_code
def yX7_feedLine : MethodName := ⟨RX7, "feedLine", "()V"⟩
abbrev cX7_follow : ByteArray := prog_9_method_23_code
def yX7_follow : MethodName := ⟨RX7, "follow", "()V"⟩
abbrev cX7_hasLock : ByteArray := prog_9_method_24_code
def yX7_hasLock : MethodName := ⟨RX7, "hasLock", "()Z"⟩
abbrev cX7_isViolated : ByteArray := prog_9_method_25_code
def yX7_isViolated : MethodName := ⟨RX7, "isViolated", "(I)Z"⟩
abbrev cX7_trip : ByteArray := prog_9_method_26_code
def yX7_trip : MethodName := ⟨RX7, "trip", "(I)V"⟩
abbrev cX7_run : ByteArray := prog_9_method_27_code
def yX7_run : MethodName := ⟨RX7, "run", "()V"⟩
abbrev cX7_await : ByteArray := prog_9_method_28_code
def yX7_await : MethodName := ⟨RX7, "await", "()V"⟩
abbrev cX7_tick : ByteArray := prog_9_method_29_code
def yX7_tick : MethodName := ⟨RX7, "tick", "()V"⟩
abbrev cX7_advance : ByteArray := prog_9_method_30_code
def yX7_advance : MethodName := ⟨RX7, "advance", "(I)I"⟩
abbrev cX7_state : ByteArray := prog_9_method_31_code
def yX7_state : MethodName := ⟨RX7, "state", "()I"⟩
abbrev cX7_isLocked : ByteArray := prog_9_method_32_code
def yX7_isLocked : MethodName := ⟨RX7, "isLocked", "()Z"⟩
abbrev cX7_measure : ByteArray := prog_9_method_33_code
def yX7_measure : MethodName := ⟨RX7, "measure", "(I)I"⟩
abbrev cX7_violations : ByteArray := prog_9_method_34_code
def yX7_violations : MethodName := ⟨RX7, "violations", "(I)I"⟩
abbrev cX7_energy : ByteArray := prog_9_method_35_code
def yX7_energy : MethodName := ⟨RX7, "energy", "()J"⟩
abbrev cX7_availability : ByteArray := prog_9_method_36_code
def yX7_availability : MethodName := ⟨RX7, "availability", "()D"⟩
abbrev cX7_events : ByteArray := prog_9_method_37_code
def yX7_events : MethodName := ⟨RX7, "events", "()I"⟩
abbrev cX7_event : ByteArray := prog_9_method_38_code
def yX7_event : MethodName := ⟨RX7, "event", "(II)I"⟩
abbrev cX7_putAside : ByteArray := prog_9_method_39_code
def yX7_putAside : MethodName := ⟨RX7, "putAside", "()V"⟩
abbrev cX7_putBack : ByteArray := prog_9_method_40_code
def yX7_putBack : MethodName := ⟨RX7, "putBack", "()V"⟩
abbrev cX7_tryIsland : ByteArray := prog_9_method_41_code
def yX7_tryIsland : MethodName := ⟨RX7, "tryIsland", "(IIII)I"⟩
abbrev cX7_islandTime : ByteArray := prog_9_method_42_code
def yX7_islandTime : MethodName := ⟨RX7, "islandTime", "(IIII)I"⟩
abbrev cX7_undetected : ByteArray := prog_9_method_43_code
def yX7_undetected : MethodName := ⟨RX7, "undetected", "(IIII)I"⟩
abbrev cX7_relockTime : ByteArray := prog_9_method_44_code
def yX7_relockTime : MethodName := ⟨RX7, "relockTime", "(II)I"⟩
abbrev cX7_save : ByteArray := prog_9_method_45_code
def yX7_save : MethodName := ⟨RX7, "save", "(I)V"⟩
abbrev cX7_restore : ByteArray := prog_9_method_46_code
def yX7_restore : MethodName := ⟨RX7, "restore", "(I)V"⟩
def RJ9 : String := "java/lang/Math"
def TJ9 : u_T := fun k => match k with
  | _ => ("", "", "", false)
def tyJ9 : Nat → FieldType := fun k => match k with
  | _ => .int
abbrev wsJ90 : List Cond := u_ws RJ9 TJ9 0
theorem nmJ9 : ∀ a, a < 0 → ∀ b, b < 0 → a ≠ b → (TJ9 a).2.1 ≠ (TJ9 b).2.1 := by decide +kernel
theorem tyJ9_ok : ∀ k, k < 0 → parseFieldDescriptor (TJ9 k).2.2.1 = some (tyJ9 k) := by decide +kernel
abbrev cJ9_floorMod_7cf53 : ByteArray := prog_14_method_50_code
def yJ9_floorMod_7cf53 : MethodName := ⟨RJ9, "floorMod", "(II)I"⟩
abbrev cJ9_max_7cf53 : ByteArray := prog_14_method_65_code
def yJ9_max_7cf53 : MethodName := ⟨RJ9, "max", "(II)I"⟩
abbrev cJ9_min_7cf53 : ByteArray := prog_14_method_69_code
def yJ9_min_7cf53 : MethodName := ⟨RJ9, "min", "(II)I"⟩
def RJ0 : String := "java/lang/String"
def TJ0 : u_T := fun k => match k with
  | _ => ("", "", "", false)
def tyJ0 : Nat → FieldType := fun k => match k with
  | _ => .int
abbrev wsJ00 : List Cond := u_ws RJ0 TJ0 0
theorem nmJ0 : ∀ a, a < 0 → ∀ b, b < 0 → a ≠ b → (TJ0 a).2.1 ≠ (TJ0 b).2.1 := by decide +kernel
theorem tyJ0_ok : ∀ k, k < 0 → parseFieldDescriptor (TJ0 k).2.2.1 = some (tyJ0 k) := by decide +kernel
def RJ10 : String := "java/lang/System"
def TJ10 : u_T := fun k => match k with
  | _ => ("", "", "", false)
def tyJ10 : Nat → FieldType := fun k => match k with
  | _ => .int
abbrev wsJ100 : List Cond := u_ws RJ10 TJ10 0
theorem nmJ10 : ∀ a, a < 0 → ∀ b, b < 0 → a ≠ b → (TJ10 a).2.1 ≠ (TJ10 b).2.1 := by decide +kernel
theorem tyJ10_ok : ∀ k, k < 0 → parseFieldDescriptor (TJ10 k).2.2.1 = some (tyJ10 k) := by decide +kernel
def RL : String := "GridInverterLaw"
abbrev cL_setGrid : ByteArray := method_3_code
def yL_setGrid : MethodName := ⟨RL, "setGrid", "(LGridInverter;II)I"⟩
abbrev cL_jump : ByteArray := method_4_code
def yL_jump : MethodName := ⟨RL, "jump", "(LGridInverter;I[J)I"⟩
abbrev cL_setLoad : ByteArray := method_5_code
def yL_setLoad : MethodName := ⟨RL, "setLoad", "(LGridInverter;III)I"⟩
abbrev cL_setLoop : ByteArray := method_6_code
def yL_setLoop : MethodName := ⟨RL, "setLoop", "(LGridInverter;II)I"⟩
abbrev cL_setLock : ByteArray := method_7_code
def yL_setLock : MethodName := ⟨RL, "setLock", "(LGridInverter;II)I"⟩
abbrev cL_setWindow : ByteArray := method_8_code
def yL_setWindow : MethodName := ⟨RL, "setWindow", "(LGridInverter;IIII)I"⟩
abbrev cL_setPower : ByteArray := method_9_code
def yL_setPower : MethodName := ⟨RL, "setPower", "(LGridInverter;III)I"⟩
abbrev cL_setDrift : ByteArray := method_10_code
def yL_setDrift : MethodName := ⟨RL, "setDrift", "(LGridInverter;II)I"⟩
abbrev cL_addRule : ByteArray := method_11_code
def yL_addRule : MethodName := ⟨RL, "addRule", "(LGridInverter;III[J)I"⟩
abbrev cL_advance : ByteArray := method_12_code
def yL_advance : MethodName := ⟨RL, "advance", "(LGridInverter;I[J)I"⟩
abbrev cL_measure : ByteArray := method_13_code
def yL_measure : MethodName := ⟨RL, "measure", "(LGridInverter;I[J)I"⟩
abbrev cL_violations : ByteArray := method_14_code
def yL_violations : MethodName := ⟨RL, "violations", "(LGridInverter;I[J)I"⟩
abbrev cL_event : ByteArray := method_15_code
def yL_event : MethodName := ⟨RL, "event", "(LGridInverter;II[J)I"⟩
abbrev cL_islandTime : ByteArray := method_16_code
def yL_islandTime : MethodName := ⟨RL, "islandTime", "(LGridInverter;IIII[J)I"⟩
abbrev cL_undetected : ByteArray := method_17_code
def yL_undetected : MethodName := ⟨RL, "undetected", "(LGridInverter;IIII[J)I"⟩
abbrev cL_relockTime : ByteArray := method_18_code
def yL_relockTime : MethodName := ⟨RL, "relockTime", "(LGridInverter;II[J)I"⟩
abbrev cL_save : ByteArray := method_19_code
def yL_save : MethodName := ⟨RL, "save", "(LGridInverter;I)I"⟩
abbrev cL_restore : ByteArray := method_20_code
def yL_restore : MethodName := ⟨RL, "restore", "(LGridInverter;I)I"⟩
abbrev cL_law : ByteArray := code
def yL_law : MethodName := ⟨RL, "law", "([I)Z"⟩
def wsX0_init : List Cond := .code yX0_init cX0_init 1 none :: ([.methodLink RX0 3 objectInit, .instanceMethod objectInit, .code objectInit ⟨#[0xb1]⟩ 1 none, .fieldLink RX0 9 "GridInverter$Inverter" "mode" "I", .fieldLink RX0 15 "GridInverter$Inverter" "power" "I", .fieldLink RX0 18 "GridInverter$Inverter" "rating" "I", .fieldLink RX0 21 "GridInverter$Inverter" "delay" "I", .fieldLink RX0 24 "GridInverter$Inverter" "ramp" "I", .fieldLink RX0 27 "GridInverter$Inverter" "readyCount" "I", .fieldLink RX0 30 "GridInverter$Inverter" "lowVoltage" "I", .fieldLink RX0 33 "GridInverter$Inverter" "highVoltage" "I", .constant RX0 36 (49000), .fieldLink RX0 37 "GridInverter$Inverter" "lowFrequency" "I", .constant RX0 40 (51000), .fieldLink RX0 41 "GridInverter$Inverter" "highFrequency" "I", .fieldLink RX0 44 "GridInverter$Inverter" "shift" "I", .fieldLink RX0 47 "GridInverter$Inverter" "gain" "I", .fieldLink RX0 50 "GridInverter$Inverter" "energy" "J", .fieldLink RX0 54 "GridInverter$Inverter" "runningTicks" "I"] ++ wsX00)
def wsX0_leaveStop : List Cond := .code yX0_leaveStop cX0_leaveStop 1 (some .boolean) :: ([.fieldLink RX0 9 "GridInverter$Inverter" "mode" "I", .fieldLink RX0 27 "GridInverter$Inverter" "readyCount" "I"] ++ wsX00)
def wsX0_drifted : List Cond := .code yX0_drifted cX0_drifted 2 (some .int) :: ([.fieldLink RX0 44 "GridInverter$Inverter" "shift" "I", .constant RX0 57 (50000), .fieldLink RX0 47 "GridInverter$Inverter" "gain" "I"] ++ wsX00)
def wsX6_outside : List Cond := .code yX6_outside cX6_outside 3 (some .boolean) :: ([])
def wsX0_admits : List Cond := .code yX0_admits cX0_admits 3 (some .boolean) :: ([.fieldLink RX0 30 "GridInverter$Inverter" "lowVoltage" "I", .fieldLink RX0 33 "GridInverter$Inverter" "highVoltage" "I", .fieldLink RX0 37 "GridInverter$Inverter" "lowFrequency" "I", .fieldLink RX0 41 "GridInverter$Inverter" "highFrequency" "I", .static yX6_outside, .initialized RX6, .code yX6_outside cX6_outside 3 (some .boolean)] ++ wsX00)
def wsX0_raisePower : List Cond := .code yX0_raisePower cX0_raisePower 1 none :: ([.fieldLink RX0 15 "GridInverter$Inverter" "power" "I", .fieldLink RX0 24 "GridInverter$Inverter" "ramp" "I", .fieldLink RX0 18 "GridInverter$Inverter" "rating" "I", .methodLink RX0 62 Lib.Math.min.name, .static Lib.Math.min.name, .initialized "java/lang/Math", .code Lib.Math.min.name Lib.Math.min.code 2 (some .int)] ++ wsX00)
def wsX0_account : List Cond := .code yX0_account cX0_account 1 none :: ([.fieldLink RX0 50 "GridInverter$Inverter" "energy" "J", .fieldLink RX0 15 "GridInverter$Inverter" "power" "I", .fieldLink RX0 9 "GridInverter$Inverter" "mode" "I", .fieldLink RX0 54 "GridInverter$Inverter" "runningTicks" "I"] ++ wsX00)
def wsX0_takeFrom : List Cond := .code yX0_takeFrom cX0_takeFrom 2 none :: ([.fieldLink RX0 9 "GridInverter$Inverter" "mode" "I", .fieldLink RX0 15 "GridInverter$Inverter" "power" "I", .fieldLink RX0 18 "GridInverter$Inverter" "rating" "I", .fieldLink RX0 21 "GridInverter$Inverter" "delay" "I", .fieldLink RX0 24 "GridInverter$Inverter" "ramp" "I", .fieldLink RX0 27 "GridInverter$Inverter" "readyCount" "I", .fieldLink RX0 30 "GridInverter$Inverter" "lowVoltage" "I", .fieldLink RX0 33 "GridInverter$Inverter" "highVoltage" "I", .fieldLink RX0 37 "GridInverter$Inverter" "lowFrequency" "I", .fieldLink RX0 41 "GridInverter$Inverter" "highFrequency" "I", .fieldLink RX0 44 "GridInverter$Inverter" "shift" "I", .fieldLink RX0 47 "GridInverter$Inverter" "gain" "I", .fieldLink RX0 50 "GridInverter$Inverter" "energy" "J", .fieldLink RX0 54 "GridInverter$Inverter" "runningTicks" "I"] ++ wsX00)
def wsX1_init : List Cond := .code yX1_init cX1_init 1 none :: ([.methodLink RX1 3 objectInit, .instanceMethod objectInit, .code objectInit ⟨#[0xb1]⟩ 1 none, .fieldLink RX1 9 "GridInverter$Line" "voltage" "I", .constant RX1 15 (50000), .fieldLink RX1 16 "GridInverter$Line" "frequency" "I", .fieldLink RX1 19 "GridInverter$Line" "angle" "I", .fieldLink RX1 22 "GridInverter$Line" "connected" "Z", .fieldLink RX1 26 "GridInverter$Line" "gridVoltage" "I", .fieldLink RX1 29 "GridInverter$Line" "gridFrequency" "I", .fieldLink RX1 32 "GridInverter$Line" "load" "I", .fieldLink RX1 35 "GridInverter$Line" "resonance" "I", .fieldLink RX1 38 "GridInverter$Line" "quality" "I"] ++ wsX10)
def wsX1_becomeIsland : List Cond := .code yX1_becomeIsland cX1_becomeIsland 4 none :: ([.fieldLink RX1 32 "GridInverter$Line" "load" "I", .fieldLink RX1 35 "GridInverter$Line" "resonance" "I", .fieldLink RX1 38 "GridInverter$Line" "quality" "I"] ++ wsX10)
def wsJ9_floorMod_7cf53 : List Cond := .code yJ9_floorMod_7cf53 cJ9_floorMod_7cf53 3 (some .int) :: ([])
def wsX1_turn : List Cond := .code yX1_turn cX1_turn 2 none :: ([.fieldLink RX1 19 "GridInverter$Line" "angle" "I", .constant RX1 41 (1000000), .methodLink RX1 42 yJ9_floorMod_7cf53, .static yJ9_floorMod_7cf53, .initialized RJ9, .code yJ9_floorMod_7cf53 cJ9_floorMod_7cf53 3 (some .int)] ++ wsX10)
def wsX1_islandVoltage : List Cond := .code yX1_islandVoltage cX1_islandVoltage 2 (some .int) :: ([.fieldLink RX1 32 "GridInverter$Line" "load" "I", .methodLink RX1 55 Lib.Math.min.name, .static Lib.Math.min.name, .initialized "java/lang/Math", .code Lib.Math.min.name Lib.Math.min.code 2 (some .int)] ++ wsX10)
def wsX6_limitedFrequency : List Cond := .code yX6_limitedFrequency cX6_limitedFrequency 1 (some .int) :: ([.constant RX6 96 (40000), .constant RX6 97 (70000), .methodLink RX6 253 Lib.Math.min.name, .static Lib.Math.min.name, .initialized "java/lang/Math", .code Lib.Math.min.name Lib.Math.min.code 2 (some .int), .methodLink RX6 259 Lib.Math.max.name, .static Lib.Math.max.name, .code Lib.Math.max.name Lib.Math.max.code 2 (some .int)])
def wsX1_islandFrequency : List Cond := .code yX1_islandFrequency cX1_islandFrequency 4 (some .int) :: ([.fieldLink RX1 16 "GridInverter$Line" "frequency" "I", .fieldLink RX1 35 "GridInverter$Line" "resonance" "I", .fieldLink RX1 38 "GridInverter$Line" "quality" "I", .static yX6_limitedFrequency, .initialized RX6, .code yX6_limitedFrequency cX6_limitedFrequency 1 (some .int), .constant RX6 96 (40000), .constant RX6 97 (70000), .methodLink RX6 253 Lib.Math.min.name, .static Lib.Math.min.name, .initialized "java/lang/Math", .code Lib.Math.min.name Lib.Math.min.code 2 (some .int), .methodLink RX6 259 Lib.Math.max.name, .static Lib.Math.max.name, .code Lib.Math.max.name Lib.Math.max.code 2 (some .int)] ++ wsX10)
def wsX1_settle_r1 : List Cond := [Cond.fieldLink RX1 22 "GridInverter$Line" "connected" "Z", Cond.fieldLink RX1 26 "GridInverter$Line" "gridVoltage" "I", Cond.fieldLink RX1 9 "GridInverter$Line" "voltage" "I", Cond.fieldLink RX1 29 "GridInverter$Line" "gridFrequency" "I", Cond.fieldLink RX1 16 "GridInverter$Line" "frequency" "I", Cond.methodLink RX1 48 yX1_islandVoltage, Cond.instanceMethod yX1_islandVoltage, Cond.selects RX1 yX1_islandVoltage yX1_islandVoltage, Cond.initialized RX1, Cond.code yX1_islandVoltage cX1_islandVoltage 2 (some .int), Cond.fieldLink RX1 32 "GridInverter$Line" "load" "I", Cond.methodLink RX1 55 Lib.Math.min.name, Cond.static Lib.Math.min.name, Cond.initialized "java/lang/Math", Cond.code Lib.Math.min.name Lib.Math.min.code 2 (some .int), Cond.methodLink RX1 52 yX1_islandFrequency, Cond.instanceMethod yX1_islandFrequency, Cond.selects RX1 yX1_islandFrequency yX1_islandFrequency, Cond.code yX1_islandFrequency cX1_islandFrequency 4 (some .int), Cond.fieldLink RX1 35 "GridInverter$Line" "resonance" "I", Cond.fieldLink RX1 38 "GridInverter$Line" "quality" "I", Cond.static yX6_limitedFrequency, Cond.initialized RX6, Cond.code yX6_limitedFrequency cX6_limitedFrequency 1 (some .int)]
def wsX1_settle_r2 : List Cond := [Cond.constant RX6 96 (40000), Cond.constant RX6 97 (70000), Cond.methodLink RX6 253 Lib.Math.min.name, Cond.methodLink RX6 259 Lib.Math.max.name, Cond.static Lib.Math.max.name, Cond.code Lib.Math.max.name Lib.Math.max.code 2 (some .int)]
def wsX1_settle : List Cond := .code yX1_settle cX1_settle 3 none :: ((wsX1_settle_r1 ++ wsX1_settle_r2) ++ wsX10)
def wsX1_takeFrom : List Cond := .code yX1_takeFrom cX1_takeFrom 2 none :: ([.fieldLink RX1 9 "GridInverter$Line" "voltage" "I", .fieldLink RX1 16 "GridInverter$Line" "frequency" "I", .fieldLink RX1 19 "GridInverter$Line" "angle" "I", .fieldLink RX1 22 "GridInverter$Line" "connected" "Z", .fieldLink RX1 26 "GridInverter$Line" "gridVoltage" "I", .fieldLink RX1 29 "GridInverter$Line" "gridFrequency" "I", .fieldLink RX1 32 "GridInverter$Line" "load" "I", .fieldLink RX1 35 "GridInverter$Line" "resonance" "I", .fieldLink RX1 38 "GridInverter$Line" "quality" "I", .methodLink RX1 61 yX1_becomeIsland, .instanceMethod yX1_becomeIsland, .selects RX1 yX1_becomeIsland yX1_becomeIsland, .initialized RX1, .code yX1_becomeIsland cX1_becomeIsland 4 none] ++ wsX10)
def wsX2_init : List Cond := .code yX2_init cX2_init 1 none :: ([.methodLink RX2 3 objectInit, .instanceMethod objectInit, .code objectInit ⟨#[0xb1]⟩ 1 none, .fieldLink RX2 9 "GridInverter$Log" "size" "I", .arrayClass .int, .fieldLink RX2 15 "GridInverter$Log" "times" "[I", .fieldLink RX2 19 "GridInverter$Log" "causes" "[I"] ++ wsX20)
def wsX2_append : List Cond := .code yX2_append cX2_append 4 none :: ([.fieldLink RX2 9 "GridInverter$Log" "size" "I", .fieldLink RX2 15 "GridInverter$Log" "times" "[I", .fieldLink RX2 19 "GridInverter$Log" "causes" "[I", .methodLink RX2 22 yJ9_floorMod_7cf53, .static yJ9_floorMod_7cf53, .initialized RJ9, .code yJ9_floorMod_7cf53 cJ9_floorMod_7cf53 3 (some .int)] ++ wsX20)
def wsX2_isKept : List Cond := .code yX2_isKept cX2_isKept 2 (some .boolean) :: ([.fieldLink RX2 9 "GridInverter$Log" "size" "I"] ++ wsX20)
def wsX2_timeOf : List Cond := .code yX2_timeOf cX2_timeOf 2 (some .int) :: ([.fieldLink RX2 15 "GridInverter$Log" "times" "[I", .methodLink RX2 28 yX2_isKept, .instanceMethod yX2_isKept, .selects RX2 yX2_isKept yX2_isKept, .initialized RX2, .code yX2_isKept cX2_isKept 2 (some .boolean), .fieldLink RX2 9 "GridInverter$Log" "size" "I", .methodLink RX2 22 yJ9_floorMod_7cf53, .static yJ9_floorMod_7cf53, .initialized RJ9, .code yJ9_floorMod_7cf53 cJ9_floorMod_7cf53 3 (some .int)] ++ wsX20)
def wsX2_causeOf : List Cond := .code yX2_causeOf cX2_causeOf 2 (some .int) :: ([.fieldLink RX2 19 "GridInverter$Log" "causes" "[I", .methodLink RX2 28 yX2_isKept, .instanceMethod yX2_isKept, .selects RX2 yX2_isKept yX2_isKept, .initialized RX2, .code yX2_isKept cX2_isKept 2 (some .boolean), .fieldLink RX2 9 "GridInverter$Log" "size" "I", .methodLink RX2 22 yJ9_floorMod_7cf53, .static yJ9_floorMod_7cf53, .initialized RJ9, .code yJ9_floorMod_7cf53 cJ9_floorMod_7cf53 3 (some .int)] ++ wsX20)
def wsX6_copyRow : List Cond := .code yX6_copyRow cX6_copyRow 2 none :: ([.methodLink RX6 253 Lib.Math.min.name, .static Lib.Math.min.name, .initialized "java/lang/Math", .code Lib.Math.min.name Lib.Math.min.code 2 (some .int), .methodLink RX6 262 arraycopyName, .native arraycopyName, .static arraycopyName, .initialized "java/lang/System"])
def wsX2_takeFrom : List Cond := .code yX2_takeFrom cX2_takeFrom 2 none :: ([.fieldLink RX2 9 "GridInverter$Log" "size" "I", .fieldLink RX2 15 "GridInverter$Log" "times" "[I", .fieldLink RX2 19 "GridInverter$Log" "causes" "[I", .static yX6_copyRow, .initialized RX6, .code yX6_copyRow cX6_copyRow 2 none, .methodLink RX6 253 Lib.Math.min.name, .static Lib.Math.min.name, .initialized "java/lang/Math", .code Lib.Math.min.name Lib.Math.min.code 2 (some .int), .methodLink RX6 262 arraycopyName, .native arraycopyName, .static arraycopyName, .initialized "java/lang/System"] ++ wsX20)
def wsX3_init : List Cond := .code yX3_init cX3_init 2 none :: ([.methodLink RX3 3 objectInit, .instanceMethod objectInit, .code objectInit ⟨#[0xb1]⟩ 1 none, .fieldLink RX3 9 "GridInverter$Loop" "angle" "I", .constant RX3 15 (50000), .fieldLink RX3 16 "GridInverter$Loop" "frequency" "I", .fieldLink RX3 19 "GridInverter$Loop" "error" "I", .fieldLink RX3 22 "GridInverter$Loop" "kp" "I", .fieldLink RX3 25 "GridInverter$Loop" "ki" "I", .fieldLink RX3 28 "GridInverter$Loop" "tolerance" "I", .fieldLink RX3 31 "GridInverter$Loop" "lockTime" "I", .fieldLink RX3 34 "GridInverter$Loop" "lockCount" "I", .arrayClass .int, .fieldLink RX3 37 "GridInverter$Loop" "past" "[I"] ++ wsX30)
def wsX3_follow_r1 : List Cond := [Cond.fieldLink RX3 9 "GridInverter$Loop" "angle" "I", Cond.fieldLink RX3 16 "GridInverter$Loop" "frequency" "I", Cond.constant RX3 41 (500000), Cond.constant RX3 42 (1000000), Cond.fieldLink RX3 19 "GridInverter$Loop" "error" "I", Cond.fieldLink RX3 22 "GridInverter$Loop" "kp" "I", Cond.fieldLink RX3 25 "GridInverter$Loop" "ki" "I", Cond.fieldLink RX3 28 "GridInverter$Loop" "tolerance" "I", Cond.fieldLink RX3 34 "GridInverter$Loop" "lockCount" "I", Cond.methodLink RX3 43 yJ9_floorMod_7cf53, Cond.static yJ9_floorMod_7cf53, Cond.initialized RJ9, Cond.code yJ9_floorMod_7cf53 cJ9_floorMod_7cf53 3 (some .int), Cond.static yX6_limitedFrequency, Cond.initialized RX6, Cond.code yX6_limitedFrequency cX6_limitedFrequency 1 (some .int), Cond.constant RX6 96 (40000), Cond.constant RX6 97 (70000), Cond.methodLink RX6 253 Lib.Math.min.name, Cond.static Lib.Math.min.name, Cond.initialized "java/lang/Math", Cond.code Lib.Math.min.name Lib.Math.min.code 2 (some .int), Cond.methodLink RX6 259 Lib.Math.max.name, Cond.static Lib.Math.max.name]
def wsX3_follow_r2 : List Cond := [Cond.code Lib.Math.max.name Lib.Math.max.code 2 (some .int), Cond.static yX6_outside, Cond.code yX6_outside cX6_outside 3 (some .boolean)]
def wsX3_follow : List Cond := .code yX3_follow cX3_follow 4 none :: ((wsX3_follow_r1 ++ wsX3_follow_r2) ++ wsX30)
def wsX3_changeUntil : List Cond := .code yX3_changeUntil cX3_changeUntil 4 (some .int) :: ([.fieldLink RX3 16 "GridInverter$Loop" "frequency" "I", .fieldLink RX3 37 "GridInverter$Loop" "past" "[I", .methodLink RX3 43 yJ9_floorMod_7cf53, .static yJ9_floorMod_7cf53, .initialized RJ9, .code yJ9_floorMod_7cf53 cJ9_floorMod_7cf53 3 (some .int)] ++ wsX30)
def wsX3_holdsLock : List Cond := .code yX3_holdsLock cX3_holdsLock 1 (some .boolean) :: ([.fieldLink RX3 34 "GridInverter$Loop" "lockCount" "I", .fieldLink RX3 31 "GridInverter$Loop" "lockTime" "I"] ++ wsX30)
def wsX3_takeFrom : List Cond := .code yX3_takeFrom cX3_takeFrom 2 none :: ([.fieldLink RX3 9 "GridInverter$Loop" "angle" "I", .fieldLink RX3 16 "GridInverter$Loop" "frequency" "I", .fieldLink RX3 19 "GridInverter$Loop" "error" "I", .fieldLink RX3 22 "GridInverter$Loop" "kp" "I", .fieldLink RX3 25 "GridInverter$Loop" "ki" "I", .fieldLink RX3 28 "GridInverter$Loop" "tolerance" "I", .fieldLink RX3 31 "GridInverter$Loop" "lockTime" "I", .fieldLink RX3 34 "GridInverter$Loop" "lockCount" "I", .fieldLink RX3 37 "GridInverter$Loop" "past" "[I", .static yX6_copyRow, .initialized RX6, .code yX6_copyRow cX6_copyRow 2 none, .methodLink RX6 253 Lib.Math.min.name, .static Lib.Math.min.name, .initialized "java/lang/Math", .code Lib.Math.min.name Lib.Math.min.code 2 (some .int), .methodLink RX6 262 arraycopyName, .native arraycopyName, .static arraycopyName, .initialized "java/lang/System"] ++ wsX30)
def wsX4_init : List Cond := .code yX4_init cX4_init 1 none :: ([.methodLink RX4 3 objectInit, .instanceMethod objectInit, .code objectInit ⟨#[0xb1]⟩ 1 none, .fieldLink RX4 9 "GridInverter$Rules" "size" "I", .arrayClass .int, .fieldLink RX4 15 "GridInverter$Rules" "kinds" "[I", .fieldLink RX4 19 "GridInverter$Rules" "thresholds" "[I", .fieldLink RX4 22 "GridInverter$Rules" "durations" "[I", .fieldLink RX4 25 "GridInverter$Rules" "counts" "[I"] ++ wsX40)
def wsX4_append : List Cond := .code yX4_append cX4_append 5 (some .int) :: ([.fieldLink RX4 9 "GridInverter$Rules" "size" "I", .fieldLink RX4 15 "GridInverter$Rules" "kinds" "[I", .fieldLink RX4 19 "GridInverter$Rules" "thresholds" "[I", .fieldLink RX4 22 "GridInverter$Rules" "durations" "[I", .fieldLink RX4 25 "GridInverter$Rules" "counts" "[I", .static yX6_outside, .initialized RX6, .code yX6_outside cX6_outside 3 (some .boolean)] ++ wsX40)
def wsX4_countOf : List Cond := .code yX4_countOf cX4_countOf 2 (some .int) :: ([.fieldLink RX4 9 "GridInverter$Rules" "size" "I", .fieldLink RX4 25 "GridInverter$Rules" "counts" "[I"] ++ wsX40)
def wsX4_isViolated : List Cond := .code yX4_isViolated cX4_isViolated 5 (some .boolean) :: ([])
def wsX4_countViolations : List Cond := .code yX4_countViolations cX4_countViolations 7 (some .int) :: ([.fieldLink RX4 9 "GridInverter$Rules" "size" "I", .fieldLink RX4 15 "GridInverter$Rules" "kinds" "[I", .fieldLink RX4 19 "GridInverter$Rules" "thresholds" "[I", .fieldLink RX4 25 "GridInverter$Rules" "counts" "[I", .fieldLink RX4 22 "GridInverter$Rules" "durations" "[I", .methodLink RX4 32 yX4_isViolated, .static yX4_isViolated, .initialized RX4, .code yX4_isViolated cX4_isViolated 5 (some .boolean)] ++ wsX40)
def wsX4_forgetViolations : List Cond := .code yX4_forgetViolations cX4_forgetViolations 2 none :: ([.fieldLink RX4 25 "GridInverter$Rules" "counts" "[I"] ++ wsX40)
def wsX4_takeFrom : List Cond := .code yX4_takeFrom cX4_takeFrom 2 none :: ([.fieldLink RX4 9 "GridInverter$Rules" "size" "I", .fieldLink RX4 15 "GridInverter$Rules" "kinds" "[I", .fieldLink RX4 19 "GridInverter$Rules" "thresholds" "[I", .fieldLink RX4 22 "GridInverter$Rules" "durations" "[I", .fieldLink RX4 25 "GridInverter$Rules" "counts" "[I", .static yX6_copyRow, .initialized RX6, .code yX6_copyRow cX6_copyRow 2 none, .methodLink RX6 253 Lib.Math.min.name, .static Lib.Math.min.name, .initialized "java/lang/Math", .code Lib.Math.min.name Lib.Math.min.code 2 (some .int), .methodLink RX6 262 arraycopyName, .native arraycopyName, .static arraycopyName, .initialized "java/lang/System"] ++ wsX40)
def wsX5_init_r1 : List Cond := [Cond.methodLink RX5 3 objectInit, Cond.instanceMethod objectInit, Cond.code objectInit ⟨#[0xb1]⟩ 1 none, Cond.fieldLink RX5 9 "GridInverter$Simulation" "time" "I", Cond.classLink RX5 15 RX1, Cond.instantiable RX1 9, Cond.initialized RX1, Cond.fieldLink RX5 18 "GridInverter$Simulation" "line" "LGridInverter$Line;", Cond.classLink RX5 22 RX3, Cond.instantiable RX3 9, Cond.initialized RX3, Cond.fieldLink RX5 25 "GridInverter$Simulation" "loop" "LGridInverter$Loop;", Cond.classLink RX5 29 RX0, Cond.instantiable RX0 14, Cond.initialized RX0, Cond.fieldLink RX5 32 "GridInverter$Simulation" "inverter" "LGridInverter$Inverter;", Cond.classLink RX5 36 RX4, Cond.instantiable RX4 5, Cond.initialized RX4, Cond.fieldLink RX5 39 "GridInverter$Simulation" "rules" "LGridInverter$Rules;", Cond.classLink RX5 43 RX2, Cond.instantiable RX2 3, Cond.initialized RX2, Cond.fieldLink RX5 46 "GridInverter$Simulation" "log" "LGridInverter$Log;"]
def wsX5_init_r2 : List Cond := [Cond.instanceMethod yX1_init, Cond.code yX1_init cX1_init 1 none, Cond.methodLink RX1 3 objectInit, Cond.fieldLink RX1 9 "GridInverter$Line" "voltage" "I", Cond.constant RX1 15 (50000), Cond.fieldLink RX1 16 "GridInverter$Line" "frequency" "I", Cond.fieldLink RX1 19 "GridInverter$Line" "angle" "I", Cond.fieldLink RX1 22 "GridInverter$Line" "connected" "Z", Cond.fieldLink RX1 26 "GridInverter$Line" "gridVoltage" "I", Cond.fieldLink RX1 29 "GridInverter$Line" "gridFrequency" "I", Cond.fieldLink RX1 32 "GridInverter$Line" "load" "I", Cond.fieldLink RX1 35 "GridInverter$Line" "resonance" "I", Cond.fieldLink RX1 38 "GridInverter$Line" "quality" "I", Cond.methodLink RX5 24 yX3_init, Cond.instanceMethod yX3_init, Cond.code yX3_init cX3_init 2 none, Cond.methodLink RX3 3 objectInit, Cond.fieldLink RX3 9 "GridInverter$Loop" "angle" "I", Cond.constant RX3 15 (50000), Cond.fieldLink RX3 16 "GridInverter$Loop" "frequency" "I", Cond.fieldLink RX3 19 "GridInverter$Loop" "error" "I", Cond.fieldLink RX3 22 "GridInverter$Loop" "kp" "I", Cond.fieldLink RX3 25 "GridInverter$Loop" "ki" "I", Cond.fieldLink RX3 28 "GridInverter$Loop" "tolerance" "I"]
def wsX5_init_r3 : List Cond := [Cond.fieldLink RX3 31 "GridInverter$Loop" "lockTime" "I", Cond.fieldLink RX3 34 "GridInverter$Loop" "lockCount" "I", Cond.arrayClass .int, Cond.fieldLink RX3 37 "GridInverter$Loop" "past" "[I", Cond.instanceMethod yX0_init, Cond.code yX0_init cX0_init 1 none, Cond.methodLink RX0 3 objectInit, Cond.fieldLink RX0 9 "GridInverter$Inverter" "mode" "I", Cond.fieldLink RX0 15 "GridInverter$Inverter" "power" "I", Cond.fieldLink RX0 18 "GridInverter$Inverter" "rating" "I", Cond.fieldLink RX0 21 "GridInverter$Inverter" "delay" "I", Cond.fieldLink RX0 24 "GridInverter$Inverter" "ramp" "I", Cond.fieldLink RX0 27 "GridInverter$Inverter" "readyCount" "I", Cond.fieldLink RX0 30 "GridInverter$Inverter" "lowVoltage" "I", Cond.fieldLink RX0 33 "GridInverter$Inverter" "highVoltage" "I", Cond.constant RX0 36 (49000), Cond.fieldLink RX0 37 "GridInverter$Inverter" "lowFrequency" "I", Cond.constant RX0 40 (51000), Cond.fieldLink RX0 41 "GridInverter$Inverter" "highFrequency" "I", Cond.fieldLink RX0 44 "GridInverter$Inverter" "shift" "I", Cond.fieldLink RX0 47 "GridInverter$Inverter" "gain" "I", Cond.fieldLink RX0 50 "GridInverter$Inverter" "energy" "J", Cond.fieldLink RX0 54 "GridInverter$Inverter" "runningTicks" "I", Cond.instanceMethod yX4_init]
def wsX5_init_r4 : List Cond := [Cond.code yX4_init cX4_init 1 none, Cond.methodLink RX4 3 objectInit, Cond.fieldLink RX4 9 "GridInverter$Rules" "size" "I", Cond.fieldLink RX4 15 "GridInverter$Rules" "kinds" "[I", Cond.fieldLink RX4 19 "GridInverter$Rules" "thresholds" "[I", Cond.fieldLink RX4 22 "GridInverter$Rules" "durations" "[I", Cond.fieldLink RX4 25 "GridInverter$Rules" "counts" "[I", Cond.instanceMethod yX2_init, Cond.code yX2_init cX2_init 1 none, Cond.methodLink RX2 3 objectInit, Cond.fieldLink RX2 9 "GridInverter$Log" "size" "I", Cond.fieldLink RX2 15 "GridInverter$Log" "times" "[I", Cond.fieldLink RX2 19 "GridInverter$Log" "causes" "[I"]
def wsX5_init : List Cond := .code yX5_init cX5_init 1 none :: ((wsX5_init_r1 ++ (wsX5_init_r2 ++ (wsX5_init_r3 ++ wsX5_init_r4))) ++ wsX50 ++ wsX10 ++ wsX30 ++ wsX00 ++ wsX40 ++ wsX20)
def wsX5_trip : List Cond := .code yX5_trip cX5_trip 2 none :: ([.fieldLink RX5 32 "GridInverter$Simulation" "inverter" "LGridInverter$Inverter;", .fieldLink RX5 81 "GridInverter$Inverter" "mode" "I", .fieldLink RX5 50 "GridInverter$Inverter" "power" "I", .fieldLink RX5 111 "GridInverter$Inverter" "readyCount" "I", .fieldLink RX5 46 "GridInverter$Simulation" "log" "LGridInverter$Log;", .fieldLink RX5 9 "GridInverter$Simulation" "time" "I", .methodLink RX5 120 yX2_append, .instanceMethod yX2_append, .selects RX2 yX2_append yX2_append, .initialized RX2, .code yX2_append cX2_append 4 none, .fieldLink RX2 9 "GridInverter$Log" "size" "I", .fieldLink RX2 15 "GridInverter$Log" "times" "[I", .fieldLink RX2 19 "GridInverter$Log" "causes" "[I", .methodLink RX2 22 yJ9_floorMod_7cf53, .static yJ9_floorMod_7cf53, .initialized RJ9, .code yJ9_floorMod_7cf53 cJ9_floorMod_7cf53 3 (some .int)] ++ wsX50 ++ wsX00 ++ wsX20)
def wsX5_protect_r1 : List Cond := [Cond.fieldLink RX5 25 "GridInverter$Simulation" "loop" "LGridInverter$Loop;", Cond.fieldLink RX5 39 "GridInverter$Simulation" "rules" "LGridInverter$Rules;", Cond.fieldLink RX5 18 "GridInverter$Simulation" "line" "LGridInverter$Line;", Cond.fieldLink RX5 72 "GridInverter$Line" "voltage" "I", Cond.fieldLink RX5 53 "GridInverter$Loop" "frequency" "I", Cond.fieldLink RX5 32 "GridInverter$Simulation" "inverter" "LGridInverter$Inverter;", Cond.methodLink RX5 93 yX3_holdsLock, Cond.instanceMethod yX3_holdsLock, Cond.selects RX3 yX3_holdsLock yX3_holdsLock, Cond.initialized RX3, Cond.code yX3_holdsLock cX3_holdsLock 1 (some .boolean), Cond.fieldLink RX3 34 "GridInverter$Loop" "lockCount" "I", Cond.fieldLink RX3 31 "GridInverter$Loop" "lockTime" "I", Cond.methodLink RX5 97 yX5_trip, Cond.instanceMethod yX5_trip, Cond.selects RX5 yX5_trip yX5_trip, Cond.initialized RX5, Cond.code yX5_trip cX5_trip 2 none, Cond.fieldLink RX5 81 "GridInverter$Inverter" "mode" "I", Cond.fieldLink RX5 50 "GridInverter$Inverter" "power" "I", Cond.fieldLink RX5 111 "GridInverter$Inverter" "readyCount" "I", Cond.fieldLink RX5 46 "GridInverter$Simulation" "log" "LGridInverter$Log;", Cond.fieldLink RX5 9 "GridInverter$Simulation" "time" "I", Cond.methodLink RX5 120 yX2_append]
def wsX5_protect_r2 : List Cond := [Cond.instanceMethod yX2_append, Cond.selects RX2 yX2_append yX2_append, Cond.initialized RX2, Cond.code yX2_append cX2_append 4 none, Cond.fieldLink RX2 9 "GridInverter$Log" "size" "I", Cond.fieldLink RX2 15 "GridInverter$Log" "times" "[I", Cond.fieldLink RX2 19 "GridInverter$Log" "causes" "[I", Cond.methodLink RX2 22 yJ9_floorMod_7cf53, Cond.static yJ9_floorMod_7cf53, Cond.initialized RJ9, Cond.code yJ9_floorMod_7cf53 cJ9_floorMod_7cf53 3 (some .int), Cond.methodLink RX5 100 yX4_countViolations, Cond.instanceMethod yX4_countViolations, Cond.selects RX4 yX4_countViolations yX4_countViolations, Cond.initialized RX4, Cond.code yX4_countViolations cX4_countViolations 7 (some .int), Cond.fieldLink RX4 9 "GridInverter$Rules" "size" "I", Cond.fieldLink RX4 15 "GridInverter$Rules" "kinds" "[I", Cond.fieldLink RX4 19 "GridInverter$Rules" "thresholds" "[I", Cond.fieldLink RX4 25 "GridInverter$Rules" "counts" "[I", Cond.fieldLink RX4 22 "GridInverter$Rules" "durations" "[I", Cond.methodLink RX4 32 yX4_isViolated, Cond.static yX4_isViolated, Cond.code yX4_isViolated cX4_isViolated 5 (some .boolean)]
def wsX5_protect_r3 : List Cond := [Cond.methodLink RX5 104 yX0_raisePower, Cond.instanceMethod yX0_raisePower, Cond.selects RX0 yX0_raisePower yX0_raisePower, Cond.initialized RX0, Cond.code yX0_raisePower cX0_raisePower 1 none, Cond.fieldLink RX0 15 "GridInverter$Inverter" "power" "I", Cond.fieldLink RX0 24 "GridInverter$Inverter" "ramp" "I", Cond.fieldLink RX0 18 "GridInverter$Inverter" "rating" "I", Cond.methodLink RX0 62 Lib.Math.min.name, Cond.static Lib.Math.min.name, Cond.initialized "java/lang/Math", Cond.code Lib.Math.min.name Lib.Math.min.code 2 (some .int)]
def wsX5_protect : List Cond := .code yX5_protect cX5_protect 3 none :: ((wsX5_protect_r1 ++ (wsX5_protect_r2 ++ wsX5_protect_r3)) ++ wsX50 ++ wsX10 ++ wsX30 ++ wsX00 ++ wsX20 ++ wsX40)
def wsX5_prepare_r1 : List Cond := [Cond.fieldLink RX5 25 "GridInverter$Simulation" "loop" "LGridInverter$Loop;", Cond.fieldLink RX5 32 "GridInverter$Simulation" "inverter" "LGridInverter$Inverter;", Cond.fieldLink RX5 18 "GridInverter$Simulation" "line" "LGridInverter$Line;", Cond.fieldLink RX5 72 "GridInverter$Line" "voltage" "I", Cond.fieldLink RX5 53 "GridInverter$Loop" "frequency" "I", Cond.fieldLink RX5 111 "GridInverter$Inverter" "readyCount" "I", Cond.fieldLink RX5 114 "GridInverter$Inverter" "delay" "I", Cond.fieldLink RX5 81 "GridInverter$Inverter" "mode" "I", Cond.fieldLink RX5 39 "GridInverter$Simulation" "rules" "LGridInverter$Rules;", Cond.fieldLink RX5 46 "GridInverter$Simulation" "log" "LGridInverter$Log;", Cond.fieldLink RX5 9 "GridInverter$Simulation" "time" "I", Cond.methodLink RX5 93 yX3_holdsLock, Cond.instanceMethod yX3_holdsLock, Cond.selects RX3 yX3_holdsLock yX3_holdsLock, Cond.initialized RX3, Cond.code yX3_holdsLock cX3_holdsLock 1 (some .boolean), Cond.fieldLink RX3 34 "GridInverter$Loop" "lockCount" "I", Cond.fieldLink RX3 31 "GridInverter$Loop" "lockTime" "I", Cond.methodLink RX5 107 yX0_admits, Cond.instanceMethod yX0_admits, Cond.selects RX0 yX0_admits yX0_admits, Cond.initialized RX0, Cond.code yX0_admits cX0_admits 3 (some .boolean), Cond.fieldLink RX0 30 "GridInverter$Inverter" "lowVoltage" "I"]
def wsX5_prepare_r2 : List Cond := [Cond.fieldLink RX0 33 "GridInverter$Inverter" "highVoltage" "I", Cond.fieldLink RX0 37 "GridInverter$Inverter" "lowFrequency" "I", Cond.fieldLink RX0 41 "GridInverter$Inverter" "highFrequency" "I", Cond.static yX6_outside, Cond.initialized RX6, Cond.code yX6_outside cX6_outside 3 (some .boolean), Cond.methodLink RX5 104 yX0_raisePower, Cond.instanceMethod yX0_raisePower, Cond.selects RX0 yX0_raisePower yX0_raisePower, Cond.code yX0_raisePower cX0_raisePower 1 none, Cond.fieldLink RX0 15 "GridInverter$Inverter" "power" "I", Cond.fieldLink RX0 24 "GridInverter$Inverter" "ramp" "I", Cond.fieldLink RX0 18 "GridInverter$Inverter" "rating" "I", Cond.methodLink RX0 62 Lib.Math.min.name, Cond.static Lib.Math.min.name, Cond.initialized "java/lang/Math", Cond.code Lib.Math.min.name Lib.Math.min.code 2 (some .int), Cond.methodLink RX5 117 yX4_forgetViolations, Cond.instanceMethod yX4_forgetViolations, Cond.selects RX4 yX4_forgetViolations yX4_forgetViolations, Cond.initialized RX4, Cond.code yX4_forgetViolations cX4_forgetViolations 2 none, Cond.fieldLink RX4 25 "GridInverter$Rules" "counts" "[I", Cond.methodLink RX5 120 yX2_append]
def wsX5_prepare_r3 : List Cond := [Cond.instanceMethod yX2_append, Cond.selects RX2 yX2_append yX2_append, Cond.initialized RX2, Cond.code yX2_append cX2_append 4 none, Cond.fieldLink RX2 9 "GridInverter$Log" "size" "I", Cond.fieldLink RX2 15 "GridInverter$Log" "times" "[I", Cond.fieldLink RX2 19 "GridInverter$Log" "causes" "[I", Cond.methodLink RX2 22 yJ9_floorMod_7cf53, Cond.static yJ9_floorMod_7cf53, Cond.initialized RJ9, Cond.code yJ9_floorMod_7cf53 cJ9_floorMod_7cf53 3 (some .int)]
def wsX5_prepare : List Cond := .code yX5_prepare cX5_prepare 2 none :: ((wsX5_prepare_r1 ++ (wsX5_prepare_r2 ++ wsX5_prepare_r3)) ++ wsX50 ++ wsX10 ++ wsX30 ++ wsX00 ++ wsX40 ++ wsX20)
def wsX5_tick_r1 : List Cond := [Cond.fieldLink RX5 9 "GridInverter$Simulation" "time" "I", Cond.fieldLink RX5 18 "GridInverter$Simulation" "line" "LGridInverter$Line;", Cond.fieldLink RX5 32 "GridInverter$Simulation" "inverter" "LGridInverter$Inverter;", Cond.fieldLink RX5 50 "GridInverter$Inverter" "power" "I", Cond.fieldLink RX5 25 "GridInverter$Simulation" "loop" "LGridInverter$Loop;", Cond.fieldLink RX5 53 "GridInverter$Loop" "frequency" "I", Cond.fieldLink RX5 64 "GridInverter$Line" "frequency" "I", Cond.fieldLink RX5 69 "GridInverter$Line" "angle" "I", Cond.fieldLink RX5 72 "GridInverter$Line" "voltage" "I", Cond.fieldLink RX5 81 "GridInverter$Inverter" "mode" "I", Cond.methodLink RX5 56 yX0_drifted, Cond.instanceMethod yX0_drifted, Cond.selects RX0 yX0_drifted yX0_drifted, Cond.initialized RX0, Cond.code yX0_drifted cX0_drifted 2 (some .int), Cond.fieldLink RX0 44 "GridInverter$Inverter" "shift" "I", Cond.constant RX0 57 (50000), Cond.fieldLink RX0 47 "GridInverter$Inverter" "gain" "I", Cond.methodLink RX5 60 yX1_settle, Cond.instanceMethod yX1_settle, Cond.selects RX1 yX1_settle yX1_settle, Cond.initialized RX1, Cond.code yX1_settle cX1_settle 3 none, Cond.fieldLink RX1 22 "GridInverter$Line" "connected" "Z"]
def wsX5_tick_r2 : List Cond := [Cond.fieldLink RX1 26 "GridInverter$Line" "gridVoltage" "I", Cond.fieldLink RX1 9 "GridInverter$Line" "voltage" "I", Cond.fieldLink RX1 29 "GridInverter$Line" "gridFrequency" "I", Cond.fieldLink RX1 16 "GridInverter$Line" "frequency" "I", Cond.methodLink RX1 48 yX1_islandVoltage, Cond.instanceMethod yX1_islandVoltage, Cond.selects RX1 yX1_islandVoltage yX1_islandVoltage, Cond.code yX1_islandVoltage cX1_islandVoltage 2 (some .int), Cond.fieldLink RX1 32 "GridInverter$Line" "load" "I", Cond.methodLink RX1 55 Lib.Math.min.name, Cond.static Lib.Math.min.name, Cond.initialized "java/lang/Math", Cond.code Lib.Math.min.name Lib.Math.min.code 2 (some .int), Cond.methodLink RX1 52 yX1_islandFrequency, Cond.instanceMethod yX1_islandFrequency, Cond.selects RX1 yX1_islandFrequency yX1_islandFrequency, Cond.code yX1_islandFrequency cX1_islandFrequency 4 (some .int), Cond.fieldLink RX1 35 "GridInverter$Line" "resonance" "I", Cond.fieldLink RX1 38 "GridInverter$Line" "quality" "I", Cond.static yX6_limitedFrequency, Cond.initialized RX6, Cond.code yX6_limitedFrequency cX6_limitedFrequency 1 (some .int), Cond.constant RX6 96 (40000), Cond.constant RX6 97 (70000)]
def wsX5_tick_r3 : List Cond := [Cond.methodLink RX6 253 Lib.Math.min.name, Cond.methodLink RX6 259 Lib.Math.max.name, Cond.static Lib.Math.max.name, Cond.code Lib.Math.max.name Lib.Math.max.code 2 (some .int), Cond.methodLink RX5 65 yX1_turn, Cond.instanceMethod yX1_turn, Cond.selects RX1 yX1_turn yX1_turn, Cond.code yX1_turn cX1_turn 2 none, Cond.fieldLink RX1 19 "GridInverter$Line" "angle" "I", Cond.constant RX1 41 (1000000), Cond.methodLink RX1 42 yJ9_floorMod_7cf53, Cond.static yJ9_floorMod_7cf53, Cond.initialized RJ9, Cond.code yJ9_floorMod_7cf53 cJ9_floorMod_7cf53 3 (some .int), Cond.methodLink RX5 75 yX3_follow, Cond.instanceMethod yX3_follow, Cond.selects RX3 yX3_follow yX3_follow, Cond.initialized RX3, Cond.code yX3_follow cX3_follow 4 none, Cond.fieldLink RX3 9 "GridInverter$Loop" "angle" "I", Cond.fieldLink RX3 16 "GridInverter$Loop" "frequency" "I", Cond.constant RX3 41 (500000), Cond.constant RX3 42 (1000000), Cond.fieldLink RX3 19 "GridInverter$Loop" "error" "I"]
def wsX5_tick_r4 : List Cond := [Cond.fieldLink RX3 22 "GridInverter$Loop" "kp" "I", Cond.fieldLink RX3 25 "GridInverter$Loop" "ki" "I", Cond.fieldLink RX3 28 "GridInverter$Loop" "tolerance" "I", Cond.fieldLink RX3 34 "GridInverter$Loop" "lockCount" "I", Cond.methodLink RX3 43 yJ9_floorMod_7cf53, Cond.static yX6_outside, Cond.code yX6_outside cX6_outside 3 (some .boolean), Cond.methodLink RX5 78 yX3_changeUntil, Cond.instanceMethod yX3_changeUntil, Cond.selects RX3 yX3_changeUntil yX3_changeUntil, Cond.code yX3_changeUntil cX3_changeUntil 4 (some .int), Cond.fieldLink RX3 37 "GridInverter$Loop" "past" "[I", Cond.methodLink RX5 84 yX5_protect, Cond.instanceMethod yX5_protect, Cond.selects RX5 yX5_protect yX5_protect, Cond.initialized RX5, Cond.code yX5_protect cX5_protect 3 none, Cond.fieldLink RX5 39 "GridInverter$Simulation" "rules" "LGridInverter$Rules;", Cond.methodLink RX5 93 yX3_holdsLock, Cond.instanceMethod yX3_holdsLock, Cond.selects RX3 yX3_holdsLock yX3_holdsLock, Cond.code yX3_holdsLock cX3_holdsLock 1 (some .boolean), Cond.fieldLink RX3 31 "GridInverter$Loop" "lockTime" "I", Cond.methodLink RX5 97 yX5_trip]
def wsX5_tick_r5 : List Cond := [Cond.instanceMethod yX5_trip, Cond.selects RX5 yX5_trip yX5_trip, Cond.code yX5_trip cX5_trip 2 none, Cond.fieldLink RX5 111 "GridInverter$Inverter" "readyCount" "I", Cond.fieldLink RX5 46 "GridInverter$Simulation" "log" "LGridInverter$Log;", Cond.methodLink RX5 120 yX2_append, Cond.instanceMethod yX2_append, Cond.selects RX2 yX2_append yX2_append, Cond.initialized RX2, Cond.code yX2_append cX2_append 4 none, Cond.fieldLink RX2 9 "GridInverter$Log" "size" "I", Cond.fieldLink RX2 15 "GridInverter$Log" "times" "[I", Cond.fieldLink RX2 19 "GridInverter$Log" "causes" "[I", Cond.methodLink RX2 22 yJ9_floorMod_7cf53, Cond.methodLink RX5 100 yX4_countViolations, Cond.instanceMethod yX4_countViolations, Cond.selects RX4 yX4_countViolations yX4_countViolations, Cond.initialized RX4, Cond.code yX4_countViolations cX4_countViolations 7 (some .int), Cond.fieldLink RX4 9 "GridInverter$Rules" "size" "I", Cond.fieldLink RX4 15 "GridInverter$Rules" "kinds" "[I", Cond.fieldLink RX4 19 "GridInverter$Rules" "thresholds" "[I", Cond.fieldLink RX4 25 "GridInverter$Rules" "counts" "[I", Cond.fieldLink RX4 22 "GridInverter$Rules" "durations" "[I"]
def wsX5_tick_r6 : List Cond := [Cond.methodLink RX4 32 yX4_isViolated, Cond.static yX4_isViolated, Cond.code yX4_isViolated cX4_isViolated 5 (some .boolean), Cond.methodLink RX5 104 yX0_raisePower, Cond.instanceMethod yX0_raisePower, Cond.selects RX0 yX0_raisePower yX0_raisePower, Cond.code yX0_raisePower cX0_raisePower 1 none, Cond.fieldLink RX0 15 "GridInverter$Inverter" "power" "I", Cond.fieldLink RX0 24 "GridInverter$Inverter" "ramp" "I", Cond.fieldLink RX0 18 "GridInverter$Inverter" "rating" "I", Cond.methodLink RX0 62 Lib.Math.min.name, Cond.methodLink RX5 87 yX5_prepare, Cond.instanceMethod yX5_prepare, Cond.selects RX5 yX5_prepare yX5_prepare, Cond.code yX5_prepare cX5_prepare 2 none, Cond.fieldLink RX5 114 "GridInverter$Inverter" "delay" "I", Cond.methodLink RX5 107 yX0_admits, Cond.instanceMethod yX0_admits, Cond.selects RX0 yX0_admits yX0_admits, Cond.code yX0_admits cX0_admits 3 (some .boolean), Cond.fieldLink RX0 30 "GridInverter$Inverter" "lowVoltage" "I", Cond.fieldLink RX0 33 "GridInverter$Inverter" "highVoltage" "I", Cond.fieldLink RX0 37 "GridInverter$Inverter" "lowFrequency" "I", Cond.fieldLink RX0 41 "GridInverter$Inverter" "highFrequency" "I"]
def wsX5_tick_r7 : List Cond := [Cond.methodLink RX5 117 yX4_forgetViolations, Cond.instanceMethod yX4_forgetViolations, Cond.selects RX4 yX4_forgetViolations yX4_forgetViolations, Cond.code yX4_forgetViolations cX4_forgetViolations 2 none, Cond.methodLink RX5 90 yX0_account, Cond.instanceMethod yX0_account, Cond.selects RX0 yX0_account yX0_account, Cond.code yX0_account cX0_account 1 none, Cond.fieldLink RX0 50 "GridInverter$Inverter" "energy" "J", Cond.fieldLink RX0 9 "GridInverter$Inverter" "mode" "I", Cond.fieldLink RX0 54 "GridInverter$Inverter" "runningTicks" "I"]
def wsX5_tick : List Cond := .code yX5_tick cX5_tick 3 none :: ((wsX5_tick_r1 ++ (wsX5_tick_r2 ++ (wsX5_tick_r3 ++ (wsX5_tick_r4 ++ (wsX5_tick_r5 ++ (wsX5_tick_r6 ++ wsX5_tick_r7)))))) ++ wsX50 ++ wsX00 ++ wsX30 ++ wsX10 ++ wsX20 ++ wsX40)
def wsX5_stopByCall : List Cond := .code yX5_stopByCall cX5_stopByCall 2 (some .boolean) :: ([.fieldLink RX5 32 "GridInverter$Simulation" "inverter" "LGridInverter$Inverter;", .fieldLink RX5 81 "GridInverter$Inverter" "mode" "I", .fieldLink RX5 46 "GridInverter$Simulation" "log" "LGridInverter$Log;", .fieldLink RX5 9 "GridInverter$Simulation" "time" "I", .fieldLink RX5 50 "GridInverter$Inverter" "power" "I", .methodLink RX5 120 yX2_append, .instanceMethod yX2_append, .selects RX2 yX2_append yX2_append, .initialized RX2, .code yX2_append cX2_append 4 none, .fieldLink RX2 9 "GridInverter$Log" "size" "I", .fieldLink RX2 15 "GridInverter$Log" "times" "[I", .fieldLink RX2 19 "GridInverter$Log" "causes" "[I", .methodLink RX2 22 yJ9_floorMod_7cf53, .static yJ9_floorMod_7cf53, .initialized RJ9, .code yJ9_floorMod_7cf53 cJ9_floorMod_7cf53 3 (some .int)] ++ wsX50 ++ wsX00 ++ wsX20)
def wsX5_takeFrom_r1 : List Cond := [Cond.fieldLink RX5 9 "GridInverter$Simulation" "time" "I", Cond.fieldLink RX5 18 "GridInverter$Simulation" "line" "LGridInverter$Line;", Cond.fieldLink RX5 25 "GridInverter$Simulation" "loop" "LGridInverter$Loop;", Cond.fieldLink RX5 32 "GridInverter$Simulation" "inverter" "LGridInverter$Inverter;", Cond.fieldLink RX5 39 "GridInverter$Simulation" "rules" "LGridInverter$Rules;", Cond.fieldLink RX5 46 "GridInverter$Simulation" "log" "LGridInverter$Log;", Cond.methodLink RX5 123 yX1_takeFrom, Cond.instanceMethod yX1_takeFrom, Cond.selects RX1 yX1_takeFrom yX1_takeFrom, Cond.initialized RX1, Cond.code yX1_takeFrom cX1_takeFrom 2 none, Cond.fieldLink RX1 9 "GridInverter$Line" "voltage" "I", Cond.fieldLink RX1 16 "GridInverter$Line" "frequency" "I", Cond.fieldLink RX1 19 "GridInverter$Line" "angle" "I", Cond.fieldLink RX1 22 "GridInverter$Line" "connected" "Z", Cond.fieldLink RX1 26 "GridInverter$Line" "gridVoltage" "I", Cond.fieldLink RX1 29 "GridInverter$Line" "gridFrequency" "I", Cond.fieldLink RX1 32 "GridInverter$Line" "load" "I", Cond.fieldLink RX1 35 "GridInverter$Line" "resonance" "I", Cond.fieldLink RX1 38 "GridInverter$Line" "quality" "I", Cond.methodLink RX1 61 yX1_becomeIsland, Cond.instanceMethod yX1_becomeIsland, Cond.selects RX1 yX1_becomeIsland yX1_becomeIsland, Cond.code yX1_becomeIsland cX1_becomeIsland 4 none]
def wsX5_takeFrom_r2 : List Cond := [Cond.methodLink RX5 127 yX3_takeFrom, Cond.instanceMethod yX3_takeFrom, Cond.selects RX3 yX3_takeFrom yX3_takeFrom, Cond.initialized RX3, Cond.code yX3_takeFrom cX3_takeFrom 2 none, Cond.fieldLink RX3 9 "GridInverter$Loop" "angle" "I", Cond.fieldLink RX3 16 "GridInverter$Loop" "frequency" "I", Cond.fieldLink RX3 19 "GridInverter$Loop" "error" "I", Cond.fieldLink RX3 22 "GridInverter$Loop" "kp" "I", Cond.fieldLink RX3 25 "GridInverter$Loop" "ki" "I", Cond.fieldLink RX3 28 "GridInverter$Loop" "tolerance" "I", Cond.fieldLink RX3 31 "GridInverter$Loop" "lockTime" "I", Cond.fieldLink RX3 34 "GridInverter$Loop" "lockCount" "I", Cond.fieldLink RX3 37 "GridInverter$Loop" "past" "[I", Cond.static yX6_copyRow, Cond.initialized RX6, Cond.code yX6_copyRow cX6_copyRow 2 none, Cond.methodLink RX6 253 Lib.Math.min.name, Cond.static Lib.Math.min.name, Cond.initialized "java/lang/Math", Cond.code Lib.Math.min.name Lib.Math.min.code 2 (some .int), Cond.methodLink RX6 262 arraycopyName, Cond.native arraycopyName, Cond.static arraycopyName]
def wsX5_takeFrom_r3 : List Cond := [Cond.initialized "java/lang/System", Cond.methodLink RX5 130 yX0_takeFrom, Cond.instanceMethod yX0_takeFrom, Cond.selects RX0 yX0_takeFrom yX0_takeFrom, Cond.initialized RX0, Cond.code yX0_takeFrom cX0_takeFrom 2 none, Cond.fieldLink RX0 9 "GridInverter$Inverter" "mode" "I", Cond.fieldLink RX0 15 "GridInverter$Inverter" "power" "I", Cond.fieldLink RX0 18 "GridInverter$Inverter" "rating" "I", Cond.fieldLink RX0 21 "GridInverter$Inverter" "delay" "I", Cond.fieldLink RX0 24 "GridInverter$Inverter" "ramp" "I", Cond.fieldLink RX0 27 "GridInverter$Inverter" "readyCount" "I", Cond.fieldLink RX0 30 "GridInverter$Inverter" "lowVoltage" "I", Cond.fieldLink RX0 33 "GridInverter$Inverter" "highVoltage" "I", Cond.fieldLink RX0 37 "GridInverter$Inverter" "lowFrequency" "I", Cond.fieldLink RX0 41 "GridInverter$Inverter" "highFrequency" "I", Cond.fieldLink RX0 44 "GridInverter$Inverter" "shift" "I", Cond.fieldLink RX0 47 "GridInverter$Inverter" "gain" "I", Cond.fieldLink RX0 50 "GridInverter$Inverter" "energy" "J", Cond.fieldLink RX0 54 "GridInverter$Inverter" "runningTicks" "I", Cond.methodLink RX5 133 yX4_takeFrom, Cond.instanceMethod yX4_takeFrom, Cond.selects RX4 yX4_takeFrom yX4_takeFrom, Cond.initialized RX4]
def wsX5_takeFrom_r4 : List Cond := [Cond.code yX4_takeFrom cX4_takeFrom 2 none, Cond.fieldLink RX4 9 "GridInverter$Rules" "size" "I", Cond.fieldLink RX4 15 "GridInverter$Rules" "kinds" "[I", Cond.fieldLink RX4 19 "GridInverter$Rules" "thresholds" "[I", Cond.fieldLink RX4 22 "GridInverter$Rules" "durations" "[I", Cond.fieldLink RX4 25 "GridInverter$Rules" "counts" "[I", Cond.methodLink RX5 136 yX2_takeFrom, Cond.instanceMethod yX2_takeFrom, Cond.selects RX2 yX2_takeFrom yX2_takeFrom, Cond.initialized RX2, Cond.code yX2_takeFrom cX2_takeFrom 2 none, Cond.fieldLink RX2 9 "GridInverter$Log" "size" "I", Cond.fieldLink RX2 15 "GridInverter$Log" "times" "[I", Cond.fieldLink RX2 19 "GridInverter$Log" "causes" "[I"]
def wsX5_takeFrom : List Cond := .code yX5_takeFrom cX5_takeFrom 2 none :: ((wsX5_takeFrom_r1 ++ (wsX5_takeFrom_r2 ++ (wsX5_takeFrom_r3 ++ wsX5_takeFrom_r4))) ++ wsX50 ++ wsX10 ++ wsX30 ++ wsX00 ++ wsX40 ++ wsX20)
def wsX6_init_r1 : List Cond := [Cond.methodLink RX6 1 objectInit, Cond.instanceMethod objectInit, Cond.code objectInit ⟨#[0xb1]⟩ 1 none, Cond.classLink RX6 7 RX5, Cond.instantiable RX5 6, Cond.initialized RX5, Cond.fieldLink RX6 10 "GridInverter" "present" "LGridInverter$Simulation;", Cond.fieldLink RX6 16 "GridInverter" "trial" "LGridInverter$Simulation;", Cond.fieldLink RX6 19 "GridInverter" "slots" "[LGridInverter$Simulation;", Cond.instanceMethod yX5_init, Cond.code yX5_init cX5_init 1 none, Cond.methodLink RX5 3 objectInit, Cond.fieldLink RX5 9 "GridInverter$Simulation" "time" "I", Cond.classLink RX5 15 RX1, Cond.instantiable RX1 9, Cond.initialized RX1, Cond.fieldLink RX5 18 "GridInverter$Simulation" "line" "LGridInverter$Line;", Cond.classLink RX5 22 RX3, Cond.instantiable RX3 9, Cond.initialized RX3, Cond.fieldLink RX5 25 "GridInverter$Simulation" "loop" "LGridInverter$Loop;", Cond.classLink RX5 29 RX0, Cond.instantiable RX0 14, Cond.initialized RX0]
def wsX6_init_r2 : List Cond := [Cond.fieldLink RX5 32 "GridInverter$Simulation" "inverter" "LGridInverter$Inverter;", Cond.classLink RX5 36 RX4, Cond.instantiable RX4 5, Cond.initialized RX4, Cond.fieldLink RX5 39 "GridInverter$Simulation" "rules" "LGridInverter$Rules;", Cond.classLink RX5 43 RX2, Cond.instantiable RX2 3, Cond.initialized RX2, Cond.fieldLink RX5 46 "GridInverter$Simulation" "log" "LGridInverter$Log;", Cond.instanceMethod yX1_init, Cond.code yX1_init cX1_init 1 none, Cond.methodLink RX1 3 objectInit, Cond.fieldLink RX1 9 "GridInverter$Line" "voltage" "I", Cond.constant RX1 15 (50000), Cond.fieldLink RX1 16 "GridInverter$Line" "frequency" "I", Cond.fieldLink RX1 19 "GridInverter$Line" "angle" "I", Cond.fieldLink RX1 22 "GridInverter$Line" "connected" "Z", Cond.fieldLink RX1 26 "GridInverter$Line" "gridVoltage" "I", Cond.fieldLink RX1 29 "GridInverter$Line" "gridFrequency" "I", Cond.fieldLink RX1 32 "GridInverter$Line" "load" "I", Cond.fieldLink RX1 35 "GridInverter$Line" "resonance" "I", Cond.fieldLink RX1 38 "GridInverter$Line" "quality" "I", Cond.methodLink RX5 24 yX3_init, Cond.instanceMethod yX3_init]
def wsX6_init_r3 : List Cond := [Cond.code yX3_init cX3_init 2 none, Cond.methodLink RX3 3 objectInit, Cond.fieldLink RX3 9 "GridInverter$Loop" "angle" "I", Cond.constant RX3 15 (50000), Cond.fieldLink RX3 16 "GridInverter$Loop" "frequency" "I", Cond.fieldLink RX3 19 "GridInverter$Loop" "error" "I", Cond.fieldLink RX3 22 "GridInverter$Loop" "kp" "I", Cond.fieldLink RX3 25 "GridInverter$Loop" "ki" "I", Cond.fieldLink RX3 28 "GridInverter$Loop" "tolerance" "I", Cond.fieldLink RX3 31 "GridInverter$Loop" "lockTime" "I", Cond.fieldLink RX3 34 "GridInverter$Loop" "lockCount" "I", Cond.arrayClass .int, Cond.fieldLink RX3 37 "GridInverter$Loop" "past" "[I", Cond.instanceMethod yX0_init, Cond.code yX0_init cX0_init 1 none, Cond.methodLink RX0 3 objectInit, Cond.fieldLink RX0 9 "GridInverter$Inverter" "mode" "I", Cond.fieldLink RX0 15 "GridInverter$Inverter" "power" "I", Cond.fieldLink RX0 18 "GridInverter$Inverter" "rating" "I", Cond.fieldLink RX0 21 "GridInverter$Inverter" "delay" "I", Cond.fieldLink RX0 24 "GridInverter$Inverter" "ramp" "I", Cond.fieldLink RX0 27 "GridInverter$Inverter" "readyCount" "I", Cond.fieldLink RX0 30 "GridInverter$Inverter" "lowVoltage" "I", Cond.fieldLink RX0 33 "GridInverter$Inverter" "highVoltage" "I"]
def wsX6_init_r4 : List Cond := [Cond.constant RX0 36 (49000), Cond.fieldLink RX0 37 "GridInverter$Inverter" "lowFrequency" "I", Cond.constant RX0 40 (51000), Cond.fieldLink RX0 41 "GridInverter$Inverter" "highFrequency" "I", Cond.fieldLink RX0 44 "GridInverter$Inverter" "shift" "I", Cond.fieldLink RX0 47 "GridInverter$Inverter" "gain" "I", Cond.fieldLink RX0 50 "GridInverter$Inverter" "energy" "J", Cond.fieldLink RX0 54 "GridInverter$Inverter" "runningTicks" "I", Cond.instanceMethod yX4_init, Cond.code yX4_init cX4_init 1 none, Cond.methodLink RX4 3 objectInit, Cond.fieldLink RX4 9 "GridInverter$Rules" "size" "I", Cond.fieldLink RX4 15 "GridInverter$Rules" "kinds" "[I", Cond.fieldLink RX4 19 "GridInverter$Rules" "thresholds" "[I", Cond.fieldLink RX4 22 "GridInverter$Rules" "durations" "[I", Cond.fieldLink RX4 25 "GridInverter$Rules" "counts" "[I", Cond.instanceMethod yX2_init, Cond.code yX2_init cX2_init 1 none, Cond.methodLink RX2 3 objectInit, Cond.fieldLink RX2 9 "GridInverter$Log" "size" "I", Cond.fieldLink RX2 15 "GridInverter$Log" "times" "[I", Cond.fieldLink RX2 19 "GridInverter$Log" "causes" "[I"]
def wsX6_init : List Cond := .code yX6_init cX6_init 1 none :: ((wsX6_init_r1 ++ (wsX6_init_r2 ++ (wsX6_init_r3 ++ wsX6_init_r4))) ++ wsX50 ++ wsX60 ++ wsX10 ++ wsX30 ++ wsX00 ++ wsX40 ++ wsX20)
def wsX6_setGrid : List Cond := .code yX6_setGrid cX6_setGrid 3 none :: ([.classLink RX6 29 "java/lang/IllegalArgumentException", .initialized "java/lang/IllegalArgumentException", .constant RX6 27 (45000), .constant RX6 28 (65000), .fieldLink RX6 10 "GridInverter" "present" "LGridInverter$Simulation;", .fieldLink RX6 36 "GridInverter$Simulation" "line" "LGridInverter$Line;", .fieldLink RX6 40 "GridInverter$Line" "gridVoltage" "I", .fieldLink RX6 46 "GridInverter$Line" "gridFrequency" "I", .methodLink RX6 23 yX6_outside, .static yX6_outside, .initialized RX6, .code yX6_outside cX6_outside 3 (some .boolean)] ++ wsX60 ++ wsX50 ++ wsX10 ++ (vx_atS RX6 33 "java/lang/IllegalArgumentException" ["java/lang/RuntimeException", "java/lang/Exception"]).filter goodWord)
def wsX6_jump : List Cond := .code yX6_jump cX6_jump 2 (some .int) :: ([.classLink RX6 29 "java/lang/IllegalArgumentException", .initialized "java/lang/IllegalArgumentException", .constant RX6 49 (-500000), .constant RX6 50 (500000), .fieldLink RX6 10 "GridInverter" "present" "LGridInverter$Simulation;", .fieldLink RX6 36 "GridInverter$Simulation" "line" "LGridInverter$Line;", .fieldLink RX6 57 "GridInverter$Line" "angle" "I", .methodLink RX6 23 yX6_outside, .static yX6_outside, .initialized RX6, .code yX6_outside cX6_outside 3 (some .boolean), .methodLink RX6 53 yX1_turn, .instanceMethod yX1_turn, .selects RX1 yX1_turn yX1_turn, .initialized RX1, .code yX1_turn cX1_turn 2 none, .fieldLink RX1 19 "GridInverter$Line" "angle" "I", .constant RX1 41 (1000000), .methodLink RX1 42 yJ9_floorMod_7cf53, .static yJ9_floorMod_7cf53, .initialized RJ9, .code yJ9_floorMod_7cf53 cJ9_floorMod_7cf53 3 (some .int)] ++ wsX60 ++ wsX50 ++ wsX10 ++ (vx_atS RX6 33 "java/lang/IllegalArgumentException" ["java/lang/RuntimeException", "java/lang/Exception"]).filter goodWord)
def wsX6_connect : List Cond := .code yX6_connect cX6_connect 3 (some .boolean) :: ([.fieldLink RX6 10 "GridInverter" "present" "LGridInverter$Simulation;", .fieldLink RX6 36 "GridInverter$Simulation" "line" "LGridInverter$Line;", .fieldLink RX6 60 "GridInverter$Line" "connected" "Z"] ++ wsX60 ++ wsX50 ++ wsX10)
def wsX6_badIsland : List Cond := .code yX6_badIsland cX6_badIsland 3 (some .boolean) :: ([.constant RX6 27 (45000), .constant RX6 28 (65000), .methodLink RX6 23 yX6_outside, .static yX6_outside, .initialized RX6, .code yX6_outside cX6_outside 3 (some .boolean)])
def wsX6_setLoad : List Cond := .code yX6_setLoad cX6_setLoad 4 none :: ([.classLink RX6 29 "java/lang/IllegalArgumentException", .initialized "java/lang/IllegalArgumentException", .fieldLink RX6 10 "GridInverter" "present" "LGridInverter$Simulation;", .fieldLink RX6 36 "GridInverter$Simulation" "line" "LGridInverter$Line;", .methodLink RX6 64 yX6_badIsland, .static yX6_badIsland, .initialized RX6, .code yX6_badIsland cX6_badIsland 3 (some .boolean), .constant RX6 27 (45000), .constant RX6 28 (65000), .methodLink RX6 23 yX6_outside, .static yX6_outside, .code yX6_outside cX6_outside 3 (some .boolean), .methodLink RX6 69 yX1_becomeIsland, .instanceMethod yX1_becomeIsland, .selects RX1 yX1_becomeIsland yX1_becomeIsland, .initialized RX1, .code yX1_becomeIsland cX1_becomeIsland 4 none, .fieldLink RX1 32 "GridInverter$Line" "load" "I", .fieldLink RX1 35 "GridInverter$Line" "resonance" "I", .fieldLink RX1 38 "GridInverter$Line" "quality" "I"] ++ wsX60 ++ wsX50 ++ wsX10 ++ (vx_atS RX6 33 "java/lang/IllegalArgumentException" ["java/lang/RuntimeException", "java/lang/Exception"]).filter goodWord)
def wsX6_setLoop : List Cond := .code yX6_setLoop cX6_setLoop 3 none :: ([.classLink RX6 29 "java/lang/IllegalArgumentException", .initialized "java/lang/IllegalArgumentException", .fieldLink RX6 10 "GridInverter" "present" "LGridInverter$Simulation;", .fieldLink RX6 75 "GridInverter$Simulation" "loop" "LGridInverter$Loop;", .fieldLink RX6 79 "GridInverter$Loop" "kp" "I", .fieldLink RX6 84 "GridInverter$Loop" "ki" "I", .methodLink RX6 23 yX6_outside, .static yX6_outside, .initialized RX6, .code yX6_outside cX6_outside 3 (some .boolean)] ++ wsX60 ++ wsX50 ++ wsX30 ++ (vx_atS RX6 33 "java/lang/IllegalArgumentException" ["java/lang/RuntimeException", "java/lang/Exception"]).filter goodWord)
def wsX6_setLock : List Cond := .code yX6_setLock cX6_setLock 3 none :: ([.classLink RX6 29 "java/lang/IllegalArgumentException", .initialized "java/lang/IllegalArgumentException", .constant RX6 87 (100000), .fieldLink RX6 10 "GridInverter" "present" "LGridInverter$Simulation;", .fieldLink RX6 75 "GridInverter$Simulation" "loop" "LGridInverter$Loop;", .fieldLink RX6 90 "GridInverter$Loop" "tolerance" "I", .fieldLink RX6 93 "GridInverter$Loop" "lockTime" "I", .methodLink RX6 23 yX6_outside, .static yX6_outside, .initialized RX6, .code yX6_outside cX6_outside 3 (some .boolean)] ++ wsX60 ++ wsX50 ++ wsX30 ++ (vx_atS RX6 33 "java/lang/IllegalArgumentException" ["java/lang/RuntimeException", "java/lang/Exception"]).filter goodWord)
def wsX6_setWindow : List Cond := .code yX6_setWindow cX6_setWindow 6 none :: ([.classLink RX6 29 "java/lang/IllegalArgumentException", .initialized "java/lang/IllegalArgumentException", .constant RX6 96 (40000), .constant RX6 97 (70000), .fieldLink RX6 10 "GridInverter" "present" "LGridInverter$Simulation;", .fieldLink RX6 100 "GridInverter$Simulation" "inverter" "LGridInverter$Inverter;", .fieldLink RX6 104 "GridInverter$Inverter" "lowVoltage" "I", .fieldLink RX6 109 "GridInverter$Inverter" "highVoltage" "I", .fieldLink RX6 112 "GridInverter$Inverter" "lowFrequency" "I", .fieldLink RX6 115 "GridInverter$Inverter" "highFrequency" "I", .methodLink RX6 23 yX6_outside, .static yX6_outside, .initialized RX6, .code yX6_outside cX6_outside 3 (some .boolean)] ++ wsX60 ++ wsX50 ++ wsX00 ++ (vx_atS RX6 33 "java/lang/IllegalArgumentException" ["java/lang/RuntimeException", "java/lang/Exception"]).filter goodWord)
def wsX6_setPower : List Cond := .code yX6_setPower cX6_setPower 4 none :: ([.classLink RX6 29 "java/lang/IllegalArgumentException", .initialized "java/lang/IllegalArgumentException", .fieldLink RX6 10 "GridInverter" "present" "LGridInverter$Simulation;", .fieldLink RX6 100 "GridInverter$Simulation" "inverter" "LGridInverter$Inverter;", .fieldLink RX6 120 "GridInverter$Inverter" "delay" "I", .fieldLink RX6 123 "GridInverter$Inverter" "ramp" "I", .fieldLink RX6 126 "GridInverter$Inverter" "rating" "I", .methodLink RX6 23 yX6_outside, .static yX6_outside, .initialized RX6, .code yX6_outside cX6_outside 3 (some .boolean)] ++ wsX60 ++ wsX50 ++ wsX00 ++ (vx_atS RX6 33 "java/lang/IllegalArgumentException" ["java/lang/RuntimeException", "java/lang/Exception"]).filter goodWord)
def wsX6_setDrift : List Cond := .code yX6_setDrift cX6_setDrift 3 none :: ([.classLink RX6 29 "java/lang/IllegalArgumentException", .initialized "java/lang/IllegalArgumentException", .fieldLink RX6 10 "GridInverter" "present" "LGridInverter$Simulation;", .fieldLink RX6 100 "GridInverter$Simulation" "inverter" "LGridInverter$Inverter;", .fieldLink RX6 131 "GridInverter$Inverter" "shift" "I", .fieldLink RX6 134 "GridInverter$Inverter" "gain" "I", .methodLink RX6 23 yX6_outside, .static yX6_outside, .initialized RX6, .code yX6_outside cX6_outside 3 (some .boolean)] ++ wsX60 ++ wsX50 ++ wsX00 ++ (vx_atS RX6 33 "java/lang/IllegalArgumentException" ["java/lang/RuntimeException", "java/lang/Exception"]).filter goodWord)
def wsX6_addRule : List Cond := .code yX6_addRule cX6_addRule 5 (some .int) :: ([.classLink RX6 29 "java/lang/IllegalArgumentException", .initialized "java/lang/IllegalArgumentException", .classLink RX6 149 "java/lang/IllegalStateException", .initialized "java/lang/IllegalStateException", .constant RX6 97 (70000), .fieldLink RX6 10 "GridInverter" "present" "LGridInverter$Simulation;", .fieldLink RX6 139 "GridInverter$Simulation" "rules" "LGridInverter$Rules;", .methodLink RX6 23 yX6_outside, .static yX6_outside, .initialized RX6, .code yX6_outside cX6_outside 3 (some .boolean), .methodLink RX6 143 yX4_append, .instanceMethod yX4_append, .selects RX4 yX4_append yX4_append, .initialized RX4, .code yX4_append cX4_append 5 (some .int), .fieldLink RX4 9 "GridInverter$Rules" "size" "I", .fieldLink RX4 15 "GridInverter$Rules" "kinds" "[I", .fieldLink RX4 19 "GridInverter$Rules" "thresholds" "[I", .fieldLink RX4 22 "GridInverter$Rules" "durations" "[I", .fieldLink RX4 25 "GridInverter$Rules" "counts" "[I"] ++ wsX60 ++ wsX50 ++ wsX40 ++ (vx_atS RX6 33 "java/lang/IllegalArgumentException" ["java/lang/RuntimeException", "java/lang/Exception"]).filter goodWord ++ (vx_atS RX6 153 "java/lang/IllegalStateException" ["java/lang/RuntimeException", "java/lang/Exception"]).filter goodWord)
def wsX6_clearRules : List Cond := .code yX6_clearRules cX6_clearRules 2 (some .int) :: ([.fieldLink RX6 10 "GridInverter" "present" "LGridInverter$Simulation;", .fieldLink RX6 139 "GridInverter$Simulation" "rules" "LGridInverter$Rules;", .fieldLink RX6 154 "GridInverter$Rules" "size" "I"] ++ wsX60 ++ wsX50 ++ wsX40)
def wsX6_start : List Cond := .code yX6_start cX6_start 1 (some .boolean) :: ([.fieldLink RX6 10 "GridInverter" "present" "LGridInverter$Simulation;", .fieldLink RX6 100 "GridInverter$Simulation" "inverter" "LGridInverter$Inverter;", .methodLink RX6 157 yX0_leaveStop, .instanceMethod yX0_leaveStop, .selects RX0 yX0_leaveStop yX0_leaveStop, .initialized RX0, .code yX0_leaveStop cX0_leaveStop 1 (some .boolean), .fieldLink RX0 9 "GridInverter$Inverter" "mode" "I", .fieldLink RX0 27 "GridInverter$Inverter" "readyCount" "I"] ++ wsX60 ++ wsX50 ++ wsX00)
def wsX6_stop : List Cond := .code yX6_stop cX6_stop 1 (some .boolean) :: ([.fieldLink RX6 10 "GridInverter" "present" "LGridInverter$Simulation;", .methodLink RX6 161 yX5_stopByCall, .instanceMethod yX5_stopByCall, .selects RX5 yX5_stopByCall yX5_stopByCall, .initialized RX5, .code yX5_stopByCall cX5_stopByCall 2 (some .boolean), .fieldLink RX5 32 "GridInverter$Simulation" "inverter" "LGridInverter$Inverter;", .fieldLink RX5 81 "GridInverter$Inverter" "mode" "I", .fieldLink RX5 46 "GridInverter$Simulation" "log" "LGridInverter$Log;", .fieldLink RX5 9 "GridInverter$Simulation" "time" "I", .fieldLink RX5 50 "GridInverter$Inverter" "power" "I", .methodLink RX5 120 yX2_append, .instanceMethod yX2_append, .selects RX2 yX2_append yX2_append, .initialized RX2, .code yX2_append cX2_append 4 none, .fieldLink RX2 9 "GridInverter$Log" "size" "I", .fieldLink RX2 15 "GridInverter$Log" "times" "[I", .fieldLink RX2 19 "GridInverter$Log" "causes" "[I", .methodLink RX2 22 yJ9_floorMod_7cf53, .static yJ9_floorMod_7cf53, .initialized RJ9, .code yJ9_floorMod_7cf53 cJ9_floorMod_7cf53 3 (some .int)] ++ wsX60 ++ wsX50 ++ wsX00 ++ wsX20)
def wsX6_advance_r1 : List Cond := [Cond.classLink RX6 29 "java/lang/IllegalArgumentException", Cond.initialized "java/lang/IllegalArgumentException", Cond.fieldLink RX6 10 "GridInverter" "present" "LGridInverter$Simulation;", Cond.fieldLink RX6 169 "GridInverter$Simulation" "time" "I", Cond.methodLink RX6 23 yX6_outside, Cond.static yX6_outside, Cond.initialized RX6, Cond.code yX6_outside cX6_outside 3 (some .boolean), Cond.methodLink RX6 166 yX5_tick, Cond.instanceMethod yX5_tick, Cond.selects RX5 yX5_tick yX5_tick, Cond.initialized RX5, Cond.code yX5_tick cX5_tick 3 none, Cond.fieldLink RX5 9 "GridInverter$Simulation" "time" "I", Cond.fieldLink RX5 18 "GridInverter$Simulation" "line" "LGridInverter$Line;", Cond.fieldLink RX5 32 "GridInverter$Simulation" "inverter" "LGridInverter$Inverter;", Cond.fieldLink RX5 50 "GridInverter$Inverter" "power" "I", Cond.fieldLink RX5 25 "GridInverter$Simulation" "loop" "LGridInverter$Loop;", Cond.fieldLink RX5 53 "GridInverter$Loop" "frequency" "I", Cond.fieldLink RX5 64 "GridInverter$Line" "frequency" "I", Cond.fieldLink RX5 69 "GridInverter$Line" "angle" "I", Cond.fieldLink RX5 72 "GridInverter$Line" "voltage" "I", Cond.fieldLink RX5 81 "GridInverter$Inverter" "mode" "I", Cond.methodLink RX5 56 yX0_drifted]
def wsX6_advance_r2 : List Cond := [Cond.instanceMethod yX0_drifted, Cond.selects RX0 yX0_drifted yX0_drifted, Cond.initialized RX0, Cond.code yX0_drifted cX0_drifted 2 (some .int), Cond.fieldLink RX0 44 "GridInverter$Inverter" "shift" "I", Cond.constant RX0 57 (50000), Cond.fieldLink RX0 47 "GridInverter$Inverter" "gain" "I", Cond.methodLink RX5 60 yX1_settle, Cond.instanceMethod yX1_settle, Cond.selects RX1 yX1_settle yX1_settle, Cond.initialized RX1, Cond.code yX1_settle cX1_settle 3 none, Cond.fieldLink RX1 22 "GridInverter$Line" "connected" "Z", Cond.fieldLink RX1 26 "GridInverter$Line" "gridVoltage" "I", Cond.fieldLink RX1 9 "GridInverter$Line" "voltage" "I", Cond.fieldLink RX1 29 "GridInverter$Line" "gridFrequency" "I", Cond.fieldLink RX1 16 "GridInverter$Line" "frequency" "I", Cond.methodLink RX1 48 yX1_islandVoltage, Cond.instanceMethod yX1_islandVoltage, Cond.selects RX1 yX1_islandVoltage yX1_islandVoltage, Cond.code yX1_islandVoltage cX1_islandVoltage 2 (some .int), Cond.fieldLink RX1 32 "GridInverter$Line" "load" "I", Cond.methodLink RX1 55 Lib.Math.min.name, Cond.static Lib.Math.min.name]
def wsX6_advance_r3 : List Cond := [Cond.initialized "java/lang/Math", Cond.code Lib.Math.min.name Lib.Math.min.code 2 (some .int), Cond.methodLink RX1 52 yX1_islandFrequency, Cond.instanceMethod yX1_islandFrequency, Cond.selects RX1 yX1_islandFrequency yX1_islandFrequency, Cond.code yX1_islandFrequency cX1_islandFrequency 4 (some .int), Cond.fieldLink RX1 35 "GridInverter$Line" "resonance" "I", Cond.fieldLink RX1 38 "GridInverter$Line" "quality" "I", Cond.static yX6_limitedFrequency, Cond.code yX6_limitedFrequency cX6_limitedFrequency 1 (some .int), Cond.constant RX6 96 (40000), Cond.constant RX6 97 (70000), Cond.methodLink RX6 253 Lib.Math.min.name, Cond.methodLink RX6 259 Lib.Math.max.name, Cond.static Lib.Math.max.name, Cond.code Lib.Math.max.name Lib.Math.max.code 2 (some .int), Cond.methodLink RX5 65 yX1_turn, Cond.instanceMethod yX1_turn, Cond.selects RX1 yX1_turn yX1_turn, Cond.code yX1_turn cX1_turn 2 none, Cond.fieldLink RX1 19 "GridInverter$Line" "angle" "I", Cond.constant RX1 41 (1000000), Cond.methodLink RX1 42 yJ9_floorMod_7cf53, Cond.static yJ9_floorMod_7cf53]
def wsX6_advance_r4 : List Cond := [Cond.initialized RJ9, Cond.code yJ9_floorMod_7cf53 cJ9_floorMod_7cf53 3 (some .int), Cond.methodLink RX5 75 yX3_follow, Cond.instanceMethod yX3_follow, Cond.selects RX3 yX3_follow yX3_follow, Cond.initialized RX3, Cond.code yX3_follow cX3_follow 4 none, Cond.fieldLink RX3 9 "GridInverter$Loop" "angle" "I", Cond.fieldLink RX3 16 "GridInverter$Loop" "frequency" "I", Cond.constant RX3 41 (500000), Cond.constant RX3 42 (1000000), Cond.fieldLink RX3 19 "GridInverter$Loop" "error" "I", Cond.fieldLink RX3 22 "GridInverter$Loop" "kp" "I", Cond.fieldLink RX3 25 "GridInverter$Loop" "ki" "I", Cond.fieldLink RX3 28 "GridInverter$Loop" "tolerance" "I", Cond.fieldLink RX3 34 "GridInverter$Loop" "lockCount" "I", Cond.methodLink RX3 43 yJ9_floorMod_7cf53, Cond.methodLink RX5 78 yX3_changeUntil, Cond.instanceMethod yX3_changeUntil, Cond.selects RX3 yX3_changeUntil yX3_changeUntil, Cond.code yX3_changeUntil cX3_changeUntil 4 (some .int), Cond.fieldLink RX3 37 "GridInverter$Loop" "past" "[I", Cond.methodLink RX5 84 yX5_protect, Cond.instanceMethod yX5_protect]
def wsX6_advance_r5 : List Cond := [Cond.selects RX5 yX5_protect yX5_protect, Cond.code yX5_protect cX5_protect 3 none, Cond.fieldLink RX5 39 "GridInverter$Simulation" "rules" "LGridInverter$Rules;", Cond.methodLink RX5 93 yX3_holdsLock, Cond.instanceMethod yX3_holdsLock, Cond.selects RX3 yX3_holdsLock yX3_holdsLock, Cond.code yX3_holdsLock cX3_holdsLock 1 (some .boolean), Cond.fieldLink RX3 31 "GridInverter$Loop" "lockTime" "I", Cond.methodLink RX5 97 yX5_trip, Cond.instanceMethod yX5_trip, Cond.selects RX5 yX5_trip yX5_trip, Cond.code yX5_trip cX5_trip 2 none, Cond.fieldLink RX5 111 "GridInverter$Inverter" "readyCount" "I", Cond.fieldLink RX5 46 "GridInverter$Simulation" "log" "LGridInverter$Log;", Cond.methodLink RX5 120 yX2_append, Cond.instanceMethod yX2_append, Cond.selects RX2 yX2_append yX2_append, Cond.initialized RX2, Cond.code yX2_append cX2_append 4 none, Cond.fieldLink RX2 9 "GridInverter$Log" "size" "I", Cond.fieldLink RX2 15 "GridInverter$Log" "times" "[I", Cond.fieldLink RX2 19 "GridInverter$Log" "causes" "[I", Cond.methodLink RX2 22 yJ9_floorMod_7cf53, Cond.methodLink RX5 100 yX4_countViolations]
def wsX6_advance_r6 : List Cond := [Cond.instanceMethod yX4_countViolations, Cond.selects RX4 yX4_countViolations yX4_countViolations, Cond.initialized RX4, Cond.code yX4_countViolations cX4_countViolations 7 (some .int), Cond.fieldLink RX4 9 "GridInverter$Rules" "size" "I", Cond.fieldLink RX4 15 "GridInverter$Rules" "kinds" "[I", Cond.fieldLink RX4 19 "GridInverter$Rules" "thresholds" "[I", Cond.fieldLink RX4 25 "GridInverter$Rules" "counts" "[I", Cond.fieldLink RX4 22 "GridInverter$Rules" "durations" "[I", Cond.methodLink RX4 32 yX4_isViolated, Cond.static yX4_isViolated, Cond.code yX4_isViolated cX4_isViolated 5 (some .boolean), Cond.methodLink RX5 104 yX0_raisePower, Cond.instanceMethod yX0_raisePower, Cond.selects RX0 yX0_raisePower yX0_raisePower, Cond.code yX0_raisePower cX0_raisePower 1 none, Cond.fieldLink RX0 15 "GridInverter$Inverter" "power" "I", Cond.fieldLink RX0 24 "GridInverter$Inverter" "ramp" "I", Cond.fieldLink RX0 18 "GridInverter$Inverter" "rating" "I", Cond.methodLink RX0 62 Lib.Math.min.name, Cond.methodLink RX5 87 yX5_prepare, Cond.instanceMethod yX5_prepare, Cond.selects RX5 yX5_prepare yX5_prepare, Cond.code yX5_prepare cX5_prepare 2 none]
def wsX6_advance_r7 : List Cond := [Cond.fieldLink RX5 114 "GridInverter$Inverter" "delay" "I", Cond.methodLink RX5 107 yX0_admits, Cond.instanceMethod yX0_admits, Cond.selects RX0 yX0_admits yX0_admits, Cond.code yX0_admits cX0_admits 3 (some .boolean), Cond.fieldLink RX0 30 "GridInverter$Inverter" "lowVoltage" "I", Cond.fieldLink RX0 33 "GridInverter$Inverter" "highVoltage" "I", Cond.fieldLink RX0 37 "GridInverter$Inverter" "lowFrequency" "I", Cond.fieldLink RX0 41 "GridInverter$Inverter" "highFrequency" "I", Cond.methodLink RX5 117 yX4_forgetViolations, Cond.instanceMethod yX4_forgetViolations, Cond.selects RX4 yX4_forgetViolations yX4_forgetViolations, Cond.code yX4_forgetViolations cX4_forgetViolations 2 none, Cond.methodLink RX5 90 yX0_account, Cond.instanceMethod yX0_account, Cond.selects RX0 yX0_account yX0_account, Cond.code yX0_account cX0_account 1 none, Cond.fieldLink RX0 50 "GridInverter$Inverter" "energy" "J", Cond.fieldLink RX0 9 "GridInverter$Inverter" "mode" "I", Cond.fieldLink RX0 54 "GridInverter$Inverter" "runningTicks" "I"]
def wsX6_advance : List Cond := .code yX6_advance cX6_advance 3 (some .int) :: ((wsX6_advance_r1 ++ (wsX6_advance_r2 ++ (wsX6_advance_r3 ++ (wsX6_advance_r4 ++ (wsX6_advance_r5 ++ (wsX6_advance_r6 ++ wsX6_advance_r7)))))) ++ wsX60 ++ wsX50 ++ wsX00 ++ wsX30 ++ wsX10 ++ wsX20 ++ wsX40 ++ (vx_atS RX6 33 "java/lang/IllegalArgumentException" ["java/lang/RuntimeException", "java/lang/Exception"]).filter goodWord)
def wsX6_state : List Cond := .code yX6_state cX6_state 1 (some .int) :: ([.fieldLink RX6 10 "GridInverter" "present" "LGridInverter$Simulation;", .fieldLink RX6 100 "GridInverter$Simulation" "inverter" "LGridInverter$Inverter;", .fieldLink RX6 172 "GridInverter$Inverter" "mode" "I"] ++ wsX60 ++ wsX50 ++ wsX00)
def wsX6_isLocked : List Cond := .code yX6_isLocked cX6_isLocked 1 (some .boolean) :: ([.fieldLink RX6 10 "GridInverter" "present" "LGridInverter$Simulation;", .fieldLink RX6 75 "GridInverter$Simulation" "loop" "LGridInverter$Loop;", .methodLink RX6 175 yX3_holdsLock, .instanceMethod yX3_holdsLock, .selects RX3 yX3_holdsLock yX3_holdsLock, .initialized RX3, .code yX3_holdsLock cX3_holdsLock 1 (some .boolean), .fieldLink RX3 34 "GridInverter$Loop" "lockCount" "I", .fieldLink RX3 31 "GridInverter$Loop" "lockTime" "I"] ++ wsX60 ++ wsX50 ++ wsX30)
def wsX6_measure : List Cond := .code yX6_measure cX6_measure 2 (some .int) :: ([.classLink RX6 29 "java/lang/IllegalArgumentException", .initialized "java/lang/IllegalArgumentException", .fieldLink RX6 10 "GridInverter" "present" "LGridInverter$Simulation;", .fieldLink RX6 169 "GridInverter$Simulation" "time" "I", .fieldLink RX6 36 "GridInverter$Simulation" "line" "LGridInverter$Line;", .fieldLink RX6 178 "GridInverter$Line" "voltage" "I", .fieldLink RX6 181 "GridInverter$Line" "frequency" "I", .fieldLink RX6 57 "GridInverter$Line" "angle" "I", .fieldLink RX6 75 "GridInverter$Simulation" "loop" "LGridInverter$Loop;", .fieldLink RX6 184 "GridInverter$Loop" "angle" "I", .fieldLink RX6 185 "GridInverter$Loop" "frequency" "I", .fieldLink RX6 186 "GridInverter$Loop" "error" "I", .fieldLink RX6 189 "GridInverter$Loop" "lockCount" "I", .fieldLink RX6 100 "GridInverter$Simulation" "inverter" "LGridInverter$Inverter;", .fieldLink RX6 192 "GridInverter$Inverter" "readyCount" "I", .fieldLink RX6 195 "GridInverter$Inverter" "power" "I"] ++ wsX60 ++ wsX50 ++ wsX10 ++ wsX30 ++ wsX00 ++ (vx_atS RX6 33 "java/lang/IllegalArgumentException" ["java/lang/RuntimeException", "java/lang/Exception"]).filter goodWord)
def wsX6_violations : List Cond := .code yX6_violations cX6_violations 3 (some .int) :: ([.classLink RX6 204 "java/lang/IndexOutOfBoundsException", .initialized "java/lang/IndexOutOfBoundsException", .fieldLink RX6 10 "GridInverter" "present" "LGridInverter$Simulation;", .fieldLink RX6 139 "GridInverter$Simulation" "rules" "LGridInverter$Rules;", .methodLink RX6 200 yX4_countOf, .instanceMethod yX4_countOf, .selects RX4 yX4_countOf yX4_countOf, .initialized RX4, .code yX4_countOf cX4_countOf 2 (some .int), .fieldLink RX4 9 "GridInverter$Rules" "size" "I", .fieldLink RX4 25 "GridInverter$Rules" "counts" "[I"] ++ wsX60 ++ wsX50 ++ wsX40 ++ (vx_atS RX6 208 "java/lang/IndexOutOfBoundsException" ["java/lang/RuntimeException", "java/lang/Exception"]).filter goodWord)
def wsX6_energy : List Cond := .code yX6_energy cX6_energy 1 (some .long) :: ([.fieldLink RX6 10 "GridInverter" "present" "LGridInverter$Simulation;", .fieldLink RX6 100 "GridInverter$Simulation" "inverter" "LGridInverter$Inverter;", .fieldLink RX6 209 "GridInverter$Inverter" "energy" "J"] ++ wsX60 ++ wsX50 ++ wsX00)
def wsX6_availability : List Cond := .code yX6_availability cX6_availability 2 (some .double) :: ([.fieldLink RX6 10 "GridInverter" "present" "LGridInverter$Simulation;", .fieldLink RX6 169 "GridInverter$Simulation" "time" "I", .fieldLink RX6 100 "GridInverter$Simulation" "inverter" "LGridInverter$Inverter;", .fieldLink RX6 213 "GridInverter$Inverter" "runningTicks" "I"] ++ wsX60 ++ wsX50 ++ wsX00)
def wsX6_events : List Cond := .code yX6_events cX6_events 1 (some .int) :: ([.fieldLink RX6 10 "GridInverter" "present" "LGridInverter$Simulation;", .fieldLink RX6 216 "GridInverter$Simulation" "log" "LGridInverter$Log;", .fieldLink RX6 220 "GridInverter$Log" "size" "I"] ++ wsX60 ++ wsX50 ++ wsX20)
def wsX6_event_r1 : List Cond := [Cond.classLink RX6 29 "java/lang/IllegalArgumentException", Cond.initialized "java/lang/IllegalArgumentException", Cond.fieldLink RX6 10 "GridInverter" "present" "LGridInverter$Simulation;", Cond.fieldLink RX6 216 "GridInverter$Simulation" "log" "LGridInverter$Log;", Cond.methodLink RX6 23 yX6_outside, Cond.static yX6_outside, Cond.initialized RX6, Cond.code yX6_outside cX6_outside 3 (some .boolean), Cond.methodLink RX6 225 yX2_timeOf, Cond.instanceMethod yX2_timeOf, Cond.selects RX2 yX2_timeOf yX2_timeOf, Cond.initialized RX2, Cond.code yX2_timeOf cX2_timeOf 2 (some .int), Cond.fieldLink RX2 15 "GridInverter$Log" "times" "[I", Cond.methodLink RX2 28 yX2_isKept, Cond.instanceMethod yX2_isKept, Cond.selects RX2 yX2_isKept yX2_isKept, Cond.code yX2_isKept cX2_isKept 2 (some .boolean), Cond.fieldLink RX2 9 "GridInverter$Log" "size" "I", Cond.methodLink RX2 22 yJ9_floorMod_7cf53, Cond.static yJ9_floorMod_7cf53, Cond.initialized RJ9, Cond.code yJ9_floorMod_7cf53 cJ9_floorMod_7cf53 3 (some .int), Cond.methodLink RX6 228 yX2_causeOf]
def wsX6_event_r2 : List Cond := [Cond.instanceMethod yX2_causeOf, Cond.selects RX2 yX2_causeOf yX2_causeOf, Cond.code yX2_causeOf cX2_causeOf 2 (some .int), Cond.fieldLink RX2 19 "GridInverter$Log" "causes" "[I"]
def wsX6_event : List Cond := .code yX6_event cX6_event 3 (some .int) :: ((wsX6_event_r1 ++ wsX6_event_r2) ++ wsX60 ++ wsX50 ++ wsX20 ++ (vx_atS RX6 33 "java/lang/IllegalArgumentException" ["java/lang/RuntimeException", "java/lang/Exception"]).filter goodWord)
def wsX6_ticksToDetect_r1 : List Cond := [Cond.fieldLink RX6 16 "GridInverter" "trial" "LGridInverter$Simulation;", Cond.fieldLink RX6 10 "GridInverter" "present" "LGridInverter$Simulation;", Cond.fieldLink RX6 36 "GridInverter$Simulation" "line" "LGridInverter$Line;", Cond.fieldLink RX6 60 "GridInverter$Line" "connected" "Z", Cond.fieldLink RX6 100 "GridInverter$Simulation" "inverter" "LGridInverter$Inverter;", Cond.fieldLink RX6 172 "GridInverter$Inverter" "mode" "I", Cond.methodLink RX6 245 yX5_takeFrom, Cond.instanceMethod yX5_takeFrom, Cond.selects RX5 yX5_takeFrom yX5_takeFrom, Cond.initialized RX5, Cond.code yX5_takeFrom cX5_takeFrom 2 none, Cond.fieldLink RX5 9 "GridInverter$Simulation" "time" "I", Cond.fieldLink RX5 18 "GridInverter$Simulation" "line" "LGridInverter$Line;", Cond.fieldLink RX5 25 "GridInverter$Simulation" "loop" "LGridInverter$Loop;", Cond.fieldLink RX5 32 "GridInverter$Simulation" "inverter" "LGridInverter$Inverter;", Cond.fieldLink RX5 39 "GridInverter$Simulation" "rules" "LGridInverter$Rules;", Cond.fieldLink RX5 46 "GridInverter$Simulation" "log" "LGridInverter$Log;", Cond.methodLink RX5 123 yX1_takeFrom, Cond.instanceMethod yX1_takeFrom, Cond.selects RX1 yX1_takeFrom yX1_takeFrom, Cond.initialized RX1, Cond.code yX1_takeFrom cX1_takeFrom 2 none, Cond.fieldLink RX1 9 "GridInverter$Line" "voltage" "I", Cond.fieldLink RX1 16 "GridInverter$Line" "frequency" "I"]
def wsX6_ticksToDetect_r2 : List Cond := [Cond.fieldLink RX1 19 "GridInverter$Line" "angle" "I", Cond.fieldLink RX1 22 "GridInverter$Line" "connected" "Z", Cond.fieldLink RX1 26 "GridInverter$Line" "gridVoltage" "I", Cond.fieldLink RX1 29 "GridInverter$Line" "gridFrequency" "I", Cond.fieldLink RX1 32 "GridInverter$Line" "load" "I", Cond.fieldLink RX1 35 "GridInverter$Line" "resonance" "I", Cond.fieldLink RX1 38 "GridInverter$Line" "quality" "I", Cond.methodLink RX1 61 yX1_becomeIsland, Cond.instanceMethod yX1_becomeIsland, Cond.selects RX1 yX1_becomeIsland yX1_becomeIsland, Cond.code yX1_becomeIsland cX1_becomeIsland 4 none, Cond.methodLink RX5 127 yX3_takeFrom, Cond.instanceMethod yX3_takeFrom, Cond.selects RX3 yX3_takeFrom yX3_takeFrom, Cond.initialized RX3, Cond.code yX3_takeFrom cX3_takeFrom 2 none, Cond.fieldLink RX3 9 "GridInverter$Loop" "angle" "I", Cond.fieldLink RX3 16 "GridInverter$Loop" "frequency" "I", Cond.fieldLink RX3 19 "GridInverter$Loop" "error" "I", Cond.fieldLink RX3 22 "GridInverter$Loop" "kp" "I", Cond.fieldLink RX3 25 "GridInverter$Loop" "ki" "I", Cond.fieldLink RX3 28 "GridInverter$Loop" "tolerance" "I", Cond.fieldLink RX3 31 "GridInverter$Loop" "lockTime" "I", Cond.fieldLink RX3 34 "GridInverter$Loop" "lockCount" "I"]
def wsX6_ticksToDetect_r3 : List Cond := [Cond.fieldLink RX3 37 "GridInverter$Loop" "past" "[I", Cond.static yX6_copyRow, Cond.initialized RX6, Cond.code yX6_copyRow cX6_copyRow 2 none, Cond.methodLink RX6 253 Lib.Math.min.name, Cond.static Lib.Math.min.name, Cond.initialized "java/lang/Math", Cond.code Lib.Math.min.name Lib.Math.min.code 2 (some .int), Cond.methodLink RX6 262 arraycopyName, Cond.native arraycopyName, Cond.static arraycopyName, Cond.initialized "java/lang/System", Cond.methodLink RX5 130 yX0_takeFrom, Cond.instanceMethod yX0_takeFrom, Cond.selects RX0 yX0_takeFrom yX0_takeFrom, Cond.initialized RX0, Cond.code yX0_takeFrom cX0_takeFrom 2 none, Cond.fieldLink RX0 9 "GridInverter$Inverter" "mode" "I", Cond.fieldLink RX0 15 "GridInverter$Inverter" "power" "I", Cond.fieldLink RX0 18 "GridInverter$Inverter" "rating" "I", Cond.fieldLink RX0 21 "GridInverter$Inverter" "delay" "I", Cond.fieldLink RX0 24 "GridInverter$Inverter" "ramp" "I", Cond.fieldLink RX0 27 "GridInverter$Inverter" "readyCount" "I", Cond.fieldLink RX0 30 "GridInverter$Inverter" "lowVoltage" "I"]
def wsX6_ticksToDetect_r4 : List Cond := [Cond.fieldLink RX0 33 "GridInverter$Inverter" "highVoltage" "I", Cond.fieldLink RX0 37 "GridInverter$Inverter" "lowFrequency" "I", Cond.fieldLink RX0 41 "GridInverter$Inverter" "highFrequency" "I", Cond.fieldLink RX0 44 "GridInverter$Inverter" "shift" "I", Cond.fieldLink RX0 47 "GridInverter$Inverter" "gain" "I", Cond.fieldLink RX0 50 "GridInverter$Inverter" "energy" "J", Cond.fieldLink RX0 54 "GridInverter$Inverter" "runningTicks" "I", Cond.methodLink RX5 133 yX4_takeFrom, Cond.instanceMethod yX4_takeFrom, Cond.selects RX4 yX4_takeFrom yX4_takeFrom, Cond.initialized RX4, Cond.code yX4_takeFrom cX4_takeFrom 2 none, Cond.fieldLink RX4 9 "GridInverter$Rules" "size" "I", Cond.fieldLink RX4 15 "GridInverter$Rules" "kinds" "[I", Cond.fieldLink RX4 19 "GridInverter$Rules" "thresholds" "[I", Cond.fieldLink RX4 22 "GridInverter$Rules" "durations" "[I", Cond.fieldLink RX4 25 "GridInverter$Rules" "counts" "[I", Cond.methodLink RX5 136 yX2_takeFrom, Cond.instanceMethod yX2_takeFrom, Cond.selects RX2 yX2_takeFrom yX2_takeFrom, Cond.initialized RX2, Cond.code yX2_takeFrom cX2_takeFrom 2 none, Cond.fieldLink RX2 9 "GridInverter$Log" "size" "I", Cond.fieldLink RX2 15 "GridInverter$Log" "times" "[I"]
def wsX6_ticksToDetect_r5 : List Cond := [Cond.fieldLink RX2 19 "GridInverter$Log" "causes" "[I", Cond.methodLink RX6 69 yX1_becomeIsland, Cond.methodLink RX6 166 yX5_tick, Cond.instanceMethod yX5_tick, Cond.selects RX5 yX5_tick yX5_tick, Cond.code yX5_tick cX5_tick 3 none, Cond.fieldLink RX5 50 "GridInverter$Inverter" "power" "I", Cond.fieldLink RX5 53 "GridInverter$Loop" "frequency" "I", Cond.fieldLink RX5 64 "GridInverter$Line" "frequency" "I", Cond.fieldLink RX5 69 "GridInverter$Line" "angle" "I", Cond.fieldLink RX5 72 "GridInverter$Line" "voltage" "I", Cond.fieldLink RX5 81 "GridInverter$Inverter" "mode" "I", Cond.methodLink RX5 56 yX0_drifted, Cond.instanceMethod yX0_drifted, Cond.selects RX0 yX0_drifted yX0_drifted, Cond.code yX0_drifted cX0_drifted 2 (some .int), Cond.constant RX0 57 (50000), Cond.methodLink RX5 60 yX1_settle, Cond.instanceMethod yX1_settle, Cond.selects RX1 yX1_settle yX1_settle, Cond.code yX1_settle cX1_settle 3 none, Cond.methodLink RX1 48 yX1_islandVoltage, Cond.instanceMethod yX1_islandVoltage, Cond.selects RX1 yX1_islandVoltage yX1_islandVoltage]
def wsX6_ticksToDetect_r6 : List Cond := [Cond.code yX1_islandVoltage cX1_islandVoltage 2 (some .int), Cond.methodLink RX1 55 Lib.Math.min.name, Cond.methodLink RX1 52 yX1_islandFrequency, Cond.instanceMethod yX1_islandFrequency, Cond.selects RX1 yX1_islandFrequency yX1_islandFrequency, Cond.code yX1_islandFrequency cX1_islandFrequency 4 (some .int), Cond.static yX6_limitedFrequency, Cond.code yX6_limitedFrequency cX6_limitedFrequency 1 (some .int), Cond.constant RX6 96 (40000), Cond.constant RX6 97 (70000), Cond.methodLink RX6 259 Lib.Math.max.name, Cond.static Lib.Math.max.name, Cond.code Lib.Math.max.name Lib.Math.max.code 2 (some .int), Cond.methodLink RX5 65 yX1_turn, Cond.instanceMethod yX1_turn, Cond.selects RX1 yX1_turn yX1_turn, Cond.code yX1_turn cX1_turn 2 none, Cond.constant RX1 41 (1000000), Cond.methodLink RX1 42 yJ9_floorMod_7cf53, Cond.static yJ9_floorMod_7cf53, Cond.initialized RJ9, Cond.code yJ9_floorMod_7cf53 cJ9_floorMod_7cf53 3 (some .int), Cond.methodLink RX5 75 yX3_follow, Cond.instanceMethod yX3_follow]
def wsX6_ticksToDetect_r7 : List Cond := [Cond.selects RX3 yX3_follow yX3_follow, Cond.code yX3_follow cX3_follow 4 none, Cond.constant RX3 41 (500000), Cond.constant RX3 42 (1000000), Cond.methodLink RX3 43 yJ9_floorMod_7cf53, Cond.static yX6_outside, Cond.code yX6_outside cX6_outside 3 (some .boolean), Cond.methodLink RX5 78 yX3_changeUntil, Cond.instanceMethod yX3_changeUntil, Cond.selects RX3 yX3_changeUntil yX3_changeUntil, Cond.code yX3_changeUntil cX3_changeUntil 4 (some .int), Cond.methodLink RX5 84 yX5_protect, Cond.instanceMethod yX5_protect, Cond.selects RX5 yX5_protect yX5_protect, Cond.code yX5_protect cX5_protect 3 none, Cond.methodLink RX5 93 yX3_holdsLock, Cond.instanceMethod yX3_holdsLock, Cond.selects RX3 yX3_holdsLock yX3_holdsLock, Cond.code yX3_holdsLock cX3_holdsLock 1 (some .boolean), Cond.methodLink RX5 97 yX5_trip, Cond.instanceMethod yX5_trip, Cond.selects RX5 yX5_trip yX5_trip, Cond.code yX5_trip cX5_trip 2 none, Cond.fieldLink RX5 111 "GridInverter$Inverter" "readyCount" "I"]
def wsX6_ticksToDetect_r8 : List Cond := [Cond.methodLink RX5 120 yX2_append, Cond.instanceMethod yX2_append, Cond.selects RX2 yX2_append yX2_append, Cond.code yX2_append cX2_append 4 none, Cond.methodLink RX2 22 yJ9_floorMod_7cf53, Cond.methodLink RX5 100 yX4_countViolations, Cond.instanceMethod yX4_countViolations, Cond.selects RX4 yX4_countViolations yX4_countViolations, Cond.code yX4_countViolations cX4_countViolations 7 (some .int), Cond.methodLink RX4 32 yX4_isViolated, Cond.static yX4_isViolated, Cond.code yX4_isViolated cX4_isViolated 5 (some .boolean), Cond.methodLink RX5 104 yX0_raisePower, Cond.instanceMethod yX0_raisePower, Cond.selects RX0 yX0_raisePower yX0_raisePower, Cond.code yX0_raisePower cX0_raisePower 1 none, Cond.methodLink RX0 62 Lib.Math.min.name, Cond.methodLink RX5 87 yX5_prepare, Cond.instanceMethod yX5_prepare, Cond.selects RX5 yX5_prepare yX5_prepare, Cond.code yX5_prepare cX5_prepare 2 none, Cond.fieldLink RX5 114 "GridInverter$Inverter" "delay" "I", Cond.methodLink RX5 107 yX0_admits, Cond.instanceMethod yX0_admits]
def wsX6_ticksToDetect_r9 : List Cond := [Cond.selects RX0 yX0_admits yX0_admits, Cond.code yX0_admits cX0_admits 3 (some .boolean), Cond.methodLink RX5 117 yX4_forgetViolations, Cond.instanceMethod yX4_forgetViolations, Cond.selects RX4 yX4_forgetViolations yX4_forgetViolations, Cond.code yX4_forgetViolations cX4_forgetViolations 2 none, Cond.methodLink RX5 90 yX0_account, Cond.instanceMethod yX0_account, Cond.selects RX0 yX0_account yX0_account, Cond.code yX0_account cX0_account 1 none]
def wsX6_ticksToDetect : List Cond := .code yX6_ticksToDetect cX6_ticksToDetect 6 (some .int) :: ((wsX6_ticksToDetect_r1 ++ (wsX6_ticksToDetect_r2 ++ (wsX6_ticksToDetect_r3 ++ (wsX6_ticksToDetect_r4 ++ (wsX6_ticksToDetect_r5 ++ (wsX6_ticksToDetect_r6 ++ (wsX6_ticksToDetect_r7 ++ (wsX6_ticksToDetect_r8 ++ wsX6_ticksToDetect_r9)))))))) ++ wsX60 ++ wsX50 ++ wsX10 ++ wsX00 ++ wsX30 ++ wsX40 ++ wsX20)
def wsX6_islandTime_r1 : List Cond := [Cond.classLink RX6 29 "java/lang/IllegalArgumentException", Cond.initialized "java/lang/IllegalArgumentException", Cond.classLink RX6 149 "java/lang/IllegalStateException", Cond.initialized "java/lang/IllegalStateException", Cond.fieldLink RX6 10 "GridInverter" "present" "LGridInverter$Simulation;", Cond.fieldLink RX6 100 "GridInverter$Simulation" "inverter" "LGridInverter$Inverter;", Cond.fieldLink RX6 172 "GridInverter$Inverter" "mode" "I", Cond.methodLink RX6 64 yX6_badIsland, Cond.static yX6_badIsland, Cond.initialized RX6, Cond.code yX6_badIsland cX6_badIsland 3 (some .boolean), Cond.constant RX6 27 (45000), Cond.constant RX6 28 (65000), Cond.methodLink RX6 23 yX6_outside, Cond.static yX6_outside, Cond.code yX6_outside cX6_outside 3 (some .boolean), Cond.methodLink RX6 235 yX6_ticksToDetect, Cond.instanceMethod yX6_ticksToDetect, Cond.selects RX6 yX6_ticksToDetect yX6_ticksToDetect, Cond.code yX6_ticksToDetect cX6_ticksToDetect 6 (some .int), Cond.fieldLink RX6 16 "GridInverter" "trial" "LGridInverter$Simulation;", Cond.fieldLink RX6 36 "GridInverter$Simulation" "line" "LGridInverter$Line;", Cond.fieldLink RX6 60 "GridInverter$Line" "connected" "Z", Cond.methodLink RX6 245 yX5_takeFrom]
def wsX6_islandTime_r2 : List Cond := [Cond.instanceMethod yX5_takeFrom, Cond.selects RX5 yX5_takeFrom yX5_takeFrom, Cond.initialized RX5, Cond.code yX5_takeFrom cX5_takeFrom 2 none, Cond.fieldLink RX5 9 "GridInverter$Simulation" "time" "I", Cond.fieldLink RX5 18 "GridInverter$Simulation" "line" "LGridInverter$Line;", Cond.fieldLink RX5 25 "GridInverter$Simulation" "loop" "LGridInverter$Loop;", Cond.fieldLink RX5 32 "GridInverter$Simulation" "inverter" "LGridInverter$Inverter;", Cond.fieldLink RX5 39 "GridInverter$Simulation" "rules" "LGridInverter$Rules;", Cond.fieldLink RX5 46 "GridInverter$Simulation" "log" "LGridInverter$Log;", Cond.methodLink RX5 123 yX1_takeFrom, Cond.instanceMethod yX1_takeFrom, Cond.selects RX1 yX1_takeFrom yX1_takeFrom, Cond.initialized RX1, Cond.code yX1_takeFrom cX1_takeFrom 2 none, Cond.fieldLink RX1 9 "GridInverter$Line" "voltage" "I", Cond.fieldLink RX1 16 "GridInverter$Line" "frequency" "I", Cond.fieldLink RX1 19 "GridInverter$Line" "angle" "I", Cond.fieldLink RX1 22 "GridInverter$Line" "connected" "Z", Cond.fieldLink RX1 26 "GridInverter$Line" "gridVoltage" "I", Cond.fieldLink RX1 29 "GridInverter$Line" "gridFrequency" "I", Cond.fieldLink RX1 32 "GridInverter$Line" "load" "I", Cond.fieldLink RX1 35 "GridInverter$Line" "resonance" "I", Cond.fieldLink RX1 38 "GridInverter$Line" "quality" "I"]
def wsX6_islandTime_r3 : List Cond := [Cond.methodLink RX1 61 yX1_becomeIsland, Cond.instanceMethod yX1_becomeIsland, Cond.selects RX1 yX1_becomeIsland yX1_becomeIsland, Cond.code yX1_becomeIsland cX1_becomeIsland 4 none, Cond.methodLink RX5 127 yX3_takeFrom, Cond.instanceMethod yX3_takeFrom, Cond.selects RX3 yX3_takeFrom yX3_takeFrom, Cond.initialized RX3, Cond.code yX3_takeFrom cX3_takeFrom 2 none, Cond.fieldLink RX3 9 "GridInverter$Loop" "angle" "I", Cond.fieldLink RX3 16 "GridInverter$Loop" "frequency" "I", Cond.fieldLink RX3 19 "GridInverter$Loop" "error" "I", Cond.fieldLink RX3 22 "GridInverter$Loop" "kp" "I", Cond.fieldLink RX3 25 "GridInverter$Loop" "ki" "I", Cond.fieldLink RX3 28 "GridInverter$Loop" "tolerance" "I", Cond.fieldLink RX3 31 "GridInverter$Loop" "lockTime" "I", Cond.fieldLink RX3 34 "GridInverter$Loop" "lockCount" "I", Cond.fieldLink RX3 37 "GridInverter$Loop" "past" "[I", Cond.static yX6_copyRow, Cond.code yX6_copyRow cX6_copyRow 2 none, Cond.methodLink RX6 253 Lib.Math.min.name, Cond.static Lib.Math.min.name, Cond.initialized "java/lang/Math", Cond.code Lib.Math.min.name Lib.Math.min.code 2 (some .int)]
def wsX6_islandTime_r4 : List Cond := [Cond.methodLink RX6 262 arraycopyName, Cond.native arraycopyName, Cond.static arraycopyName, Cond.initialized "java/lang/System", Cond.methodLink RX5 130 yX0_takeFrom, Cond.instanceMethod yX0_takeFrom, Cond.selects RX0 yX0_takeFrom yX0_takeFrom, Cond.initialized RX0, Cond.code yX0_takeFrom cX0_takeFrom 2 none, Cond.fieldLink RX0 9 "GridInverter$Inverter" "mode" "I", Cond.fieldLink RX0 15 "GridInverter$Inverter" "power" "I", Cond.fieldLink RX0 18 "GridInverter$Inverter" "rating" "I", Cond.fieldLink RX0 21 "GridInverter$Inverter" "delay" "I", Cond.fieldLink RX0 24 "GridInverter$Inverter" "ramp" "I", Cond.fieldLink RX0 27 "GridInverter$Inverter" "readyCount" "I", Cond.fieldLink RX0 30 "GridInverter$Inverter" "lowVoltage" "I", Cond.fieldLink RX0 33 "GridInverter$Inverter" "highVoltage" "I", Cond.fieldLink RX0 37 "GridInverter$Inverter" "lowFrequency" "I", Cond.fieldLink RX0 41 "GridInverter$Inverter" "highFrequency" "I", Cond.fieldLink RX0 44 "GridInverter$Inverter" "shift" "I", Cond.fieldLink RX0 47 "GridInverter$Inverter" "gain" "I", Cond.fieldLink RX0 50 "GridInverter$Inverter" "energy" "J", Cond.fieldLink RX0 54 "GridInverter$Inverter" "runningTicks" "I", Cond.methodLink RX5 133 yX4_takeFrom]
def wsX6_islandTime_r5 : List Cond := [Cond.instanceMethod yX4_takeFrom, Cond.selects RX4 yX4_takeFrom yX4_takeFrom, Cond.initialized RX4, Cond.code yX4_takeFrom cX4_takeFrom 2 none, Cond.fieldLink RX4 9 "GridInverter$Rules" "size" "I", Cond.fieldLink RX4 15 "GridInverter$Rules" "kinds" "[I", Cond.fieldLink RX4 19 "GridInverter$Rules" "thresholds" "[I", Cond.fieldLink RX4 22 "GridInverter$Rules" "durations" "[I", Cond.fieldLink RX4 25 "GridInverter$Rules" "counts" "[I", Cond.methodLink RX5 136 yX2_takeFrom, Cond.instanceMethod yX2_takeFrom, Cond.selects RX2 yX2_takeFrom yX2_takeFrom, Cond.initialized RX2, Cond.code yX2_takeFrom cX2_takeFrom 2 none, Cond.fieldLink RX2 9 "GridInverter$Log" "size" "I", Cond.fieldLink RX2 15 "GridInverter$Log" "times" "[I", Cond.fieldLink RX2 19 "GridInverter$Log" "causes" "[I", Cond.methodLink RX6 69 yX1_becomeIsland, Cond.methodLink RX6 166 yX5_tick, Cond.instanceMethod yX5_tick, Cond.selects RX5 yX5_tick yX5_tick, Cond.code yX5_tick cX5_tick 3 none, Cond.fieldLink RX5 50 "GridInverter$Inverter" "power" "I", Cond.fieldLink RX5 53 "GridInverter$Loop" "frequency" "I"]
def wsX6_islandTime_r6 : List Cond := [Cond.fieldLink RX5 64 "GridInverter$Line" "frequency" "I", Cond.fieldLink RX5 69 "GridInverter$Line" "angle" "I", Cond.fieldLink RX5 72 "GridInverter$Line" "voltage" "I", Cond.fieldLink RX5 81 "GridInverter$Inverter" "mode" "I", Cond.methodLink RX5 56 yX0_drifted, Cond.instanceMethod yX0_drifted, Cond.selects RX0 yX0_drifted yX0_drifted, Cond.code yX0_drifted cX0_drifted 2 (some .int), Cond.constant RX0 57 (50000), Cond.methodLink RX5 60 yX1_settle, Cond.instanceMethod yX1_settle, Cond.selects RX1 yX1_settle yX1_settle, Cond.code yX1_settle cX1_settle 3 none, Cond.methodLink RX1 48 yX1_islandVoltage, Cond.instanceMethod yX1_islandVoltage, Cond.selects RX1 yX1_islandVoltage yX1_islandVoltage, Cond.code yX1_islandVoltage cX1_islandVoltage 2 (some .int), Cond.methodLink RX1 55 Lib.Math.min.name, Cond.methodLink RX1 52 yX1_islandFrequency, Cond.instanceMethod yX1_islandFrequency, Cond.selects RX1 yX1_islandFrequency yX1_islandFrequency, Cond.code yX1_islandFrequency cX1_islandFrequency 4 (some .int), Cond.static yX6_limitedFrequency, Cond.code yX6_limitedFrequency cX6_limitedFrequency 1 (some .int)]
def wsX6_islandTime_r7 : List Cond := [Cond.constant RX6 96 (40000), Cond.constant RX6 97 (70000), Cond.methodLink RX6 259 Lib.Math.max.name, Cond.static Lib.Math.max.name, Cond.code Lib.Math.max.name Lib.Math.max.code 2 (some .int), Cond.methodLink RX5 65 yX1_turn, Cond.instanceMethod yX1_turn, Cond.selects RX1 yX1_turn yX1_turn, Cond.code yX1_turn cX1_turn 2 none, Cond.constant RX1 41 (1000000), Cond.methodLink RX1 42 yJ9_floorMod_7cf53, Cond.static yJ9_floorMod_7cf53, Cond.initialized RJ9, Cond.code yJ9_floorMod_7cf53 cJ9_floorMod_7cf53 3 (some .int), Cond.methodLink RX5 75 yX3_follow, Cond.instanceMethod yX3_follow, Cond.selects RX3 yX3_follow yX3_follow, Cond.code yX3_follow cX3_follow 4 none, Cond.constant RX3 41 (500000), Cond.constant RX3 42 (1000000), Cond.methodLink RX3 43 yJ9_floorMod_7cf53, Cond.methodLink RX5 78 yX3_changeUntil, Cond.instanceMethod yX3_changeUntil, Cond.selects RX3 yX3_changeUntil yX3_changeUntil]
def wsX6_islandTime_r8 : List Cond := [Cond.code yX3_changeUntil cX3_changeUntil 4 (some .int), Cond.methodLink RX5 84 yX5_protect, Cond.instanceMethod yX5_protect, Cond.selects RX5 yX5_protect yX5_protect, Cond.code yX5_protect cX5_protect 3 none, Cond.methodLink RX5 93 yX3_holdsLock, Cond.instanceMethod yX3_holdsLock, Cond.selects RX3 yX3_holdsLock yX3_holdsLock, Cond.code yX3_holdsLock cX3_holdsLock 1 (some .boolean), Cond.methodLink RX5 97 yX5_trip, Cond.instanceMethod yX5_trip, Cond.selects RX5 yX5_trip yX5_trip, Cond.code yX5_trip cX5_trip 2 none, Cond.fieldLink RX5 111 "GridInverter$Inverter" "readyCount" "I", Cond.methodLink RX5 120 yX2_append, Cond.instanceMethod yX2_append, Cond.selects RX2 yX2_append yX2_append, Cond.code yX2_append cX2_append 4 none, Cond.methodLink RX2 22 yJ9_floorMod_7cf53, Cond.methodLink RX5 100 yX4_countViolations, Cond.instanceMethod yX4_countViolations, Cond.selects RX4 yX4_countViolations yX4_countViolations, Cond.code yX4_countViolations cX4_countViolations 7 (some .int), Cond.methodLink RX4 32 yX4_isViolated]
def wsX6_islandTime_r9 : List Cond := [Cond.static yX4_isViolated, Cond.code yX4_isViolated cX4_isViolated 5 (some .boolean), Cond.methodLink RX5 104 yX0_raisePower, Cond.instanceMethod yX0_raisePower, Cond.selects RX0 yX0_raisePower yX0_raisePower, Cond.code yX0_raisePower cX0_raisePower 1 none, Cond.methodLink RX0 62 Lib.Math.min.name, Cond.methodLink RX5 87 yX5_prepare, Cond.instanceMethod yX5_prepare, Cond.selects RX5 yX5_prepare yX5_prepare, Cond.code yX5_prepare cX5_prepare 2 none, Cond.fieldLink RX5 114 "GridInverter$Inverter" "delay" "I", Cond.methodLink RX5 107 yX0_admits, Cond.instanceMethod yX0_admits, Cond.selects RX0 yX0_admits yX0_admits, Cond.code yX0_admits cX0_admits 3 (some .boolean), Cond.methodLink RX5 117 yX4_forgetViolations, Cond.instanceMethod yX4_forgetViolations, Cond.selects RX4 yX4_forgetViolations yX4_forgetViolations, Cond.code yX4_forgetViolations cX4_forgetViolations 2 none, Cond.methodLink RX5 90 yX0_account, Cond.instanceMethod yX0_account, Cond.selects RX0 yX0_account yX0_account, Cond.code yX0_account cX0_account 1 none]
def wsX6_islandTime : List Cond := .code yX6_islandTime cX6_islandTime 5 (some .int) :: ((wsX6_islandTime_r1 ++ (wsX6_islandTime_r2 ++ (wsX6_islandTime_r3 ++ (wsX6_islandTime_r4 ++ (wsX6_islandTime_r5 ++ (wsX6_islandTime_r6 ++ (wsX6_islandTime_r7 ++ (wsX6_islandTime_r8 ++ wsX6_islandTime_r9)))))))) ++ wsX60 ++ wsX50 ++ wsX00 ++ wsX10 ++ wsX30 ++ wsX40 ++ wsX20 ++ (vx_atS RX6 33 "java/lang/IllegalArgumentException" ["java/lang/RuntimeException", "java/lang/Exception"]).filter goodWord ++ (vx_atS RX6 153 "java/lang/IllegalStateException" ["java/lang/RuntimeException", "java/lang/Exception"]).filter goodWord)
def wsX6_undetected_r1 : List Cond := [Cond.classLink RX6 29 "java/lang/IllegalArgumentException", Cond.initialized "java/lang/IllegalArgumentException", Cond.classLink RX6 149 "java/lang/IllegalStateException", Cond.initialized "java/lang/IllegalStateException", Cond.fieldLink RX6 10 "GridInverter" "present" "LGridInverter$Simulation;", Cond.fieldLink RX6 100 "GridInverter$Simulation" "inverter" "LGridInverter$Inverter;", Cond.fieldLink RX6 172 "GridInverter$Inverter" "mode" "I", Cond.fieldLink RX6 36 "GridInverter$Simulation" "line" "LGridInverter$Line;", Cond.fieldLink RX6 239 "GridInverter$Line" "resonance" "I", Cond.fieldLink RX6 242 "GridInverter$Line" "quality" "I", Cond.methodLink RX6 23 yX6_outside, Cond.static yX6_outside, Cond.initialized RX6, Cond.code yX6_outside cX6_outside 3 (some .boolean), Cond.methodLink RX6 235 yX6_ticksToDetect, Cond.instanceMethod yX6_ticksToDetect, Cond.selects RX6 yX6_ticksToDetect yX6_ticksToDetect, Cond.code yX6_ticksToDetect cX6_ticksToDetect 6 (some .int), Cond.fieldLink RX6 16 "GridInverter" "trial" "LGridInverter$Simulation;", Cond.fieldLink RX6 60 "GridInverter$Line" "connected" "Z", Cond.methodLink RX6 245 yX5_takeFrom, Cond.instanceMethod yX5_takeFrom, Cond.selects RX5 yX5_takeFrom yX5_takeFrom, Cond.initialized RX5]
def wsX6_undetected_r2 : List Cond := [Cond.code yX5_takeFrom cX5_takeFrom 2 none, Cond.fieldLink RX5 9 "GridInverter$Simulation" "time" "I", Cond.fieldLink RX5 18 "GridInverter$Simulation" "line" "LGridInverter$Line;", Cond.fieldLink RX5 25 "GridInverter$Simulation" "loop" "LGridInverter$Loop;", Cond.fieldLink RX5 32 "GridInverter$Simulation" "inverter" "LGridInverter$Inverter;", Cond.fieldLink RX5 39 "GridInverter$Simulation" "rules" "LGridInverter$Rules;", Cond.fieldLink RX5 46 "GridInverter$Simulation" "log" "LGridInverter$Log;", Cond.methodLink RX5 123 yX1_takeFrom, Cond.instanceMethod yX1_takeFrom, Cond.selects RX1 yX1_takeFrom yX1_takeFrom, Cond.initialized RX1, Cond.code yX1_takeFrom cX1_takeFrom 2 none, Cond.fieldLink RX1 9 "GridInverter$Line" "voltage" "I", Cond.fieldLink RX1 16 "GridInverter$Line" "frequency" "I", Cond.fieldLink RX1 19 "GridInverter$Line" "angle" "I", Cond.fieldLink RX1 22 "GridInverter$Line" "connected" "Z", Cond.fieldLink RX1 26 "GridInverter$Line" "gridVoltage" "I", Cond.fieldLink RX1 29 "GridInverter$Line" "gridFrequency" "I", Cond.fieldLink RX1 32 "GridInverter$Line" "load" "I", Cond.fieldLink RX1 35 "GridInverter$Line" "resonance" "I", Cond.fieldLink RX1 38 "GridInverter$Line" "quality" "I", Cond.methodLink RX1 61 yX1_becomeIsland, Cond.instanceMethod yX1_becomeIsland, Cond.selects RX1 yX1_becomeIsland yX1_becomeIsland]
def wsX6_undetected_r3 : List Cond := [Cond.code yX1_becomeIsland cX1_becomeIsland 4 none, Cond.methodLink RX5 127 yX3_takeFrom, Cond.instanceMethod yX3_takeFrom, Cond.selects RX3 yX3_takeFrom yX3_takeFrom, Cond.initialized RX3, Cond.code yX3_takeFrom cX3_takeFrom 2 none, Cond.fieldLink RX3 9 "GridInverter$Loop" "angle" "I", Cond.fieldLink RX3 16 "GridInverter$Loop" "frequency" "I", Cond.fieldLink RX3 19 "GridInverter$Loop" "error" "I", Cond.fieldLink RX3 22 "GridInverter$Loop" "kp" "I", Cond.fieldLink RX3 25 "GridInverter$Loop" "ki" "I", Cond.fieldLink RX3 28 "GridInverter$Loop" "tolerance" "I", Cond.fieldLink RX3 31 "GridInverter$Loop" "lockTime" "I", Cond.fieldLink RX3 34 "GridInverter$Loop" "lockCount" "I", Cond.fieldLink RX3 37 "GridInverter$Loop" "past" "[I", Cond.static yX6_copyRow, Cond.code yX6_copyRow cX6_copyRow 2 none, Cond.methodLink RX6 253 Lib.Math.min.name, Cond.static Lib.Math.min.name, Cond.initialized "java/lang/Math", Cond.code Lib.Math.min.name Lib.Math.min.code 2 (some .int), Cond.methodLink RX6 262 arraycopyName, Cond.native arraycopyName, Cond.static arraycopyName]
def wsX6_undetected_r4 : List Cond := [Cond.initialized "java/lang/System", Cond.methodLink RX5 130 yX0_takeFrom, Cond.instanceMethod yX0_takeFrom, Cond.selects RX0 yX0_takeFrom yX0_takeFrom, Cond.initialized RX0, Cond.code yX0_takeFrom cX0_takeFrom 2 none, Cond.fieldLink RX0 9 "GridInverter$Inverter" "mode" "I", Cond.fieldLink RX0 15 "GridInverter$Inverter" "power" "I", Cond.fieldLink RX0 18 "GridInverter$Inverter" "rating" "I", Cond.fieldLink RX0 21 "GridInverter$Inverter" "delay" "I", Cond.fieldLink RX0 24 "GridInverter$Inverter" "ramp" "I", Cond.fieldLink RX0 27 "GridInverter$Inverter" "readyCount" "I", Cond.fieldLink RX0 30 "GridInverter$Inverter" "lowVoltage" "I", Cond.fieldLink RX0 33 "GridInverter$Inverter" "highVoltage" "I", Cond.fieldLink RX0 37 "GridInverter$Inverter" "lowFrequency" "I", Cond.fieldLink RX0 41 "GridInverter$Inverter" "highFrequency" "I", Cond.fieldLink RX0 44 "GridInverter$Inverter" "shift" "I", Cond.fieldLink RX0 47 "GridInverter$Inverter" "gain" "I", Cond.fieldLink RX0 50 "GridInverter$Inverter" "energy" "J", Cond.fieldLink RX0 54 "GridInverter$Inverter" "runningTicks" "I", Cond.methodLink RX5 133 yX4_takeFrom, Cond.instanceMethod yX4_takeFrom, Cond.selects RX4 yX4_takeFrom yX4_takeFrom, Cond.initialized RX4]
def wsX6_undetected_r5 : List Cond := [Cond.code yX4_takeFrom cX4_takeFrom 2 none, Cond.fieldLink RX4 9 "GridInverter$Rules" "size" "I", Cond.fieldLink RX4 15 "GridInverter$Rules" "kinds" "[I", Cond.fieldLink RX4 19 "GridInverter$Rules" "thresholds" "[I", Cond.fieldLink RX4 22 "GridInverter$Rules" "durations" "[I", Cond.fieldLink RX4 25 "GridInverter$Rules" "counts" "[I", Cond.methodLink RX5 136 yX2_takeFrom, Cond.instanceMethod yX2_takeFrom, Cond.selects RX2 yX2_takeFrom yX2_takeFrom, Cond.initialized RX2, Cond.code yX2_takeFrom cX2_takeFrom 2 none, Cond.fieldLink RX2 9 "GridInverter$Log" "size" "I", Cond.fieldLink RX2 15 "GridInverter$Log" "times" "[I", Cond.fieldLink RX2 19 "GridInverter$Log" "causes" "[I", Cond.methodLink RX6 69 yX1_becomeIsland, Cond.methodLink RX6 166 yX5_tick, Cond.instanceMethod yX5_tick, Cond.selects RX5 yX5_tick yX5_tick, Cond.code yX5_tick cX5_tick 3 none, Cond.fieldLink RX5 50 "GridInverter$Inverter" "power" "I", Cond.fieldLink RX5 53 "GridInverter$Loop" "frequency" "I", Cond.fieldLink RX5 64 "GridInverter$Line" "frequency" "I", Cond.fieldLink RX5 69 "GridInverter$Line" "angle" "I", Cond.fieldLink RX5 72 "GridInverter$Line" "voltage" "I"]
def wsX6_undetected_r6 : List Cond := [Cond.fieldLink RX5 81 "GridInverter$Inverter" "mode" "I", Cond.methodLink RX5 56 yX0_drifted, Cond.instanceMethod yX0_drifted, Cond.selects RX0 yX0_drifted yX0_drifted, Cond.code yX0_drifted cX0_drifted 2 (some .int), Cond.constant RX0 57 (50000), Cond.methodLink RX5 60 yX1_settle, Cond.instanceMethod yX1_settle, Cond.selects RX1 yX1_settle yX1_settle, Cond.code yX1_settle cX1_settle 3 none, Cond.methodLink RX1 48 yX1_islandVoltage, Cond.instanceMethod yX1_islandVoltage, Cond.selects RX1 yX1_islandVoltage yX1_islandVoltage, Cond.code yX1_islandVoltage cX1_islandVoltage 2 (some .int), Cond.methodLink RX1 55 Lib.Math.min.name, Cond.methodLink RX1 52 yX1_islandFrequency, Cond.instanceMethod yX1_islandFrequency, Cond.selects RX1 yX1_islandFrequency yX1_islandFrequency, Cond.code yX1_islandFrequency cX1_islandFrequency 4 (some .int), Cond.static yX6_limitedFrequency, Cond.code yX6_limitedFrequency cX6_limitedFrequency 1 (some .int), Cond.constant RX6 96 (40000), Cond.constant RX6 97 (70000), Cond.methodLink RX6 259 Lib.Math.max.name]
def wsX6_undetected_r7 : List Cond := [Cond.static Lib.Math.max.name, Cond.code Lib.Math.max.name Lib.Math.max.code 2 (some .int), Cond.methodLink RX5 65 yX1_turn, Cond.instanceMethod yX1_turn, Cond.selects RX1 yX1_turn yX1_turn, Cond.code yX1_turn cX1_turn 2 none, Cond.constant RX1 41 (1000000), Cond.methodLink RX1 42 yJ9_floorMod_7cf53, Cond.static yJ9_floorMod_7cf53, Cond.initialized RJ9, Cond.code yJ9_floorMod_7cf53 cJ9_floorMod_7cf53 3 (some .int), Cond.methodLink RX5 75 yX3_follow, Cond.instanceMethod yX3_follow, Cond.selects RX3 yX3_follow yX3_follow, Cond.code yX3_follow cX3_follow 4 none, Cond.constant RX3 41 (500000), Cond.constant RX3 42 (1000000), Cond.methodLink RX3 43 yJ9_floorMod_7cf53, Cond.methodLink RX5 78 yX3_changeUntil, Cond.instanceMethod yX3_changeUntil, Cond.selects RX3 yX3_changeUntil yX3_changeUntil, Cond.code yX3_changeUntil cX3_changeUntil 4 (some .int), Cond.methodLink RX5 84 yX5_protect, Cond.instanceMethod yX5_protect]
def wsX6_undetected_r8 : List Cond := [Cond.selects RX5 yX5_protect yX5_protect, Cond.code yX5_protect cX5_protect 3 none, Cond.methodLink RX5 93 yX3_holdsLock, Cond.instanceMethod yX3_holdsLock, Cond.selects RX3 yX3_holdsLock yX3_holdsLock, Cond.code yX3_holdsLock cX3_holdsLock 1 (some .boolean), Cond.methodLink RX5 97 yX5_trip, Cond.instanceMethod yX5_trip, Cond.selects RX5 yX5_trip yX5_trip, Cond.code yX5_trip cX5_trip 2 none, Cond.fieldLink RX5 111 "GridInverter$Inverter" "readyCount" "I", Cond.methodLink RX5 120 yX2_append, Cond.instanceMethod yX2_append, Cond.selects RX2 yX2_append yX2_append, Cond.code yX2_append cX2_append 4 none, Cond.methodLink RX2 22 yJ9_floorMod_7cf53, Cond.methodLink RX5 100 yX4_countViolations, Cond.instanceMethod yX4_countViolations, Cond.selects RX4 yX4_countViolations yX4_countViolations, Cond.code yX4_countViolations cX4_countViolations 7 (some .int), Cond.methodLink RX4 32 yX4_isViolated, Cond.static yX4_isViolated, Cond.code yX4_isViolated cX4_isViolated 5 (some .boolean), Cond.methodLink RX5 104 yX0_raisePower]
def wsX6_undetected_r9 : List Cond := [Cond.instanceMethod yX0_raisePower, Cond.selects RX0 yX0_raisePower yX0_raisePower, Cond.code yX0_raisePower cX0_raisePower 1 none, Cond.methodLink RX0 62 Lib.Math.min.name, Cond.methodLink RX5 87 yX5_prepare, Cond.instanceMethod yX5_prepare, Cond.selects RX5 yX5_prepare yX5_prepare, Cond.code yX5_prepare cX5_prepare 2 none, Cond.fieldLink RX5 114 "GridInverter$Inverter" "delay" "I", Cond.methodLink RX5 107 yX0_admits, Cond.instanceMethod yX0_admits, Cond.selects RX0 yX0_admits yX0_admits, Cond.code yX0_admits cX0_admits 3 (some .boolean), Cond.methodLink RX5 117 yX4_forgetViolations, Cond.instanceMethod yX4_forgetViolations, Cond.selects RX4 yX4_forgetViolations yX4_forgetViolations, Cond.code yX4_forgetViolations cX4_forgetViolations 2 none, Cond.methodLink RX5 90 yX0_account, Cond.instanceMethod yX0_account, Cond.selects RX0 yX0_account yX0_account, Cond.code yX0_account cX0_account 1 none]
def wsX6_undetected : List Cond := .code yX6_undetected cX6_undetected 8 (some .int) :: ((wsX6_undetected_r1 ++ (wsX6_undetected_r2 ++ (wsX6_undetected_r3 ++ (wsX6_undetected_r4 ++ (wsX6_undetected_r5 ++ (wsX6_undetected_r6 ++ (wsX6_undetected_r7 ++ (wsX6_undetected_r8 ++ wsX6_undetected_r9)))))))) ++ wsX60 ++ wsX50 ++ wsX00 ++ wsX10 ++ wsX30 ++ wsX40 ++ wsX20 ++ (vx_atS RX6 33 "java/lang/IllegalArgumentException" ["java/lang/RuntimeException", "java/lang/Exception"]).filter goodWord ++ (vx_atS RX6 153 "java/lang/IllegalStateException" ["java/lang/RuntimeException", "java/lang/Exception"]).filter goodWord)
def wsX6_relockTime_r1 : List Cond := [Cond.classLink RX6 29 "java/lang/IllegalArgumentException", Cond.initialized "java/lang/IllegalArgumentException", Cond.constant RX6 49 (-500000), Cond.constant RX6 50 (500000), Cond.fieldLink RX6 16 "GridInverter" "trial" "LGridInverter$Simulation;", Cond.fieldLink RX6 10 "GridInverter" "present" "LGridInverter$Simulation;", Cond.fieldLink RX6 36 "GridInverter$Simulation" "line" "LGridInverter$Line;", Cond.fieldLink RX6 75 "GridInverter$Simulation" "loop" "LGridInverter$Loop;", Cond.fieldLink RX6 189 "GridInverter$Loop" "lockCount" "I", Cond.methodLink RX6 23 yX6_outside, Cond.static yX6_outside, Cond.initialized RX6, Cond.code yX6_outside cX6_outside 3 (some .boolean), Cond.methodLink RX6 245 yX5_takeFrom, Cond.instanceMethod yX5_takeFrom, Cond.selects RX5 yX5_takeFrom yX5_takeFrom, Cond.initialized RX5, Cond.code yX5_takeFrom cX5_takeFrom 2 none, Cond.fieldLink RX5 9 "GridInverter$Simulation" "time" "I", Cond.fieldLink RX5 18 "GridInverter$Simulation" "line" "LGridInverter$Line;", Cond.fieldLink RX5 25 "GridInverter$Simulation" "loop" "LGridInverter$Loop;", Cond.fieldLink RX5 32 "GridInverter$Simulation" "inverter" "LGridInverter$Inverter;", Cond.fieldLink RX5 39 "GridInverter$Simulation" "rules" "LGridInverter$Rules;", Cond.fieldLink RX5 46 "GridInverter$Simulation" "log" "LGridInverter$Log;"]
def wsX6_relockTime_r2 : List Cond := [Cond.methodLink RX5 123 yX1_takeFrom, Cond.instanceMethod yX1_takeFrom, Cond.selects RX1 yX1_takeFrom yX1_takeFrom, Cond.initialized RX1, Cond.code yX1_takeFrom cX1_takeFrom 2 none, Cond.fieldLink RX1 9 "GridInverter$Line" "voltage" "I", Cond.fieldLink RX1 16 "GridInverter$Line" "frequency" "I", Cond.fieldLink RX1 19 "GridInverter$Line" "angle" "I", Cond.fieldLink RX1 22 "GridInverter$Line" "connected" "Z", Cond.fieldLink RX1 26 "GridInverter$Line" "gridVoltage" "I", Cond.fieldLink RX1 29 "GridInverter$Line" "gridFrequency" "I", Cond.fieldLink RX1 32 "GridInverter$Line" "load" "I", Cond.fieldLink RX1 35 "GridInverter$Line" "resonance" "I", Cond.fieldLink RX1 38 "GridInverter$Line" "quality" "I", Cond.methodLink RX1 61 yX1_becomeIsland, Cond.instanceMethod yX1_becomeIsland, Cond.selects RX1 yX1_becomeIsland yX1_becomeIsland, Cond.code yX1_becomeIsland cX1_becomeIsland 4 none, Cond.methodLink RX5 127 yX3_takeFrom, Cond.instanceMethod yX3_takeFrom, Cond.selects RX3 yX3_takeFrom yX3_takeFrom, Cond.initialized RX3, Cond.code yX3_takeFrom cX3_takeFrom 2 none, Cond.fieldLink RX3 9 "GridInverter$Loop" "angle" "I"]
def wsX6_relockTime_r3 : List Cond := [Cond.fieldLink RX3 16 "GridInverter$Loop" "frequency" "I", Cond.fieldLink RX3 19 "GridInverter$Loop" "error" "I", Cond.fieldLink RX3 22 "GridInverter$Loop" "kp" "I", Cond.fieldLink RX3 25 "GridInverter$Loop" "ki" "I", Cond.fieldLink RX3 28 "GridInverter$Loop" "tolerance" "I", Cond.fieldLink RX3 31 "GridInverter$Loop" "lockTime" "I", Cond.fieldLink RX3 34 "GridInverter$Loop" "lockCount" "I", Cond.fieldLink RX3 37 "GridInverter$Loop" "past" "[I", Cond.static yX6_copyRow, Cond.code yX6_copyRow cX6_copyRow 2 none, Cond.methodLink RX6 253 Lib.Math.min.name, Cond.static Lib.Math.min.name, Cond.initialized "java/lang/Math", Cond.code Lib.Math.min.name Lib.Math.min.code 2 (some .int), Cond.methodLink RX6 262 arraycopyName, Cond.native arraycopyName, Cond.static arraycopyName, Cond.initialized "java/lang/System", Cond.methodLink RX5 130 yX0_takeFrom, Cond.instanceMethod yX0_takeFrom, Cond.selects RX0 yX0_takeFrom yX0_takeFrom, Cond.initialized RX0, Cond.code yX0_takeFrom cX0_takeFrom 2 none, Cond.fieldLink RX0 9 "GridInverter$Inverter" "mode" "I"]
def wsX6_relockTime_r4 : List Cond := [Cond.fieldLink RX0 15 "GridInverter$Inverter" "power" "I", Cond.fieldLink RX0 18 "GridInverter$Inverter" "rating" "I", Cond.fieldLink RX0 21 "GridInverter$Inverter" "delay" "I", Cond.fieldLink RX0 24 "GridInverter$Inverter" "ramp" "I", Cond.fieldLink RX0 27 "GridInverter$Inverter" "readyCount" "I", Cond.fieldLink RX0 30 "GridInverter$Inverter" "lowVoltage" "I", Cond.fieldLink RX0 33 "GridInverter$Inverter" "highVoltage" "I", Cond.fieldLink RX0 37 "GridInverter$Inverter" "lowFrequency" "I", Cond.fieldLink RX0 41 "GridInverter$Inverter" "highFrequency" "I", Cond.fieldLink RX0 44 "GridInverter$Inverter" "shift" "I", Cond.fieldLink RX0 47 "GridInverter$Inverter" "gain" "I", Cond.fieldLink RX0 50 "GridInverter$Inverter" "energy" "J", Cond.fieldLink RX0 54 "GridInverter$Inverter" "runningTicks" "I", Cond.methodLink RX5 133 yX4_takeFrom, Cond.instanceMethod yX4_takeFrom, Cond.selects RX4 yX4_takeFrom yX4_takeFrom, Cond.initialized RX4, Cond.code yX4_takeFrom cX4_takeFrom 2 none, Cond.fieldLink RX4 9 "GridInverter$Rules" "size" "I", Cond.fieldLink RX4 15 "GridInverter$Rules" "kinds" "[I", Cond.fieldLink RX4 19 "GridInverter$Rules" "thresholds" "[I", Cond.fieldLink RX4 22 "GridInverter$Rules" "durations" "[I", Cond.fieldLink RX4 25 "GridInverter$Rules" "counts" "[I", Cond.methodLink RX5 136 yX2_takeFrom]
def wsX6_relockTime_r5 : List Cond := [Cond.instanceMethod yX2_takeFrom, Cond.selects RX2 yX2_takeFrom yX2_takeFrom, Cond.initialized RX2, Cond.code yX2_takeFrom cX2_takeFrom 2 none, Cond.fieldLink RX2 9 "GridInverter$Log" "size" "I", Cond.fieldLink RX2 15 "GridInverter$Log" "times" "[I", Cond.fieldLink RX2 19 "GridInverter$Log" "causes" "[I", Cond.methodLink RX6 53 yX1_turn, Cond.instanceMethod yX1_turn, Cond.selects RX1 yX1_turn yX1_turn, Cond.code yX1_turn cX1_turn 2 none, Cond.constant RX1 41 (1000000), Cond.methodLink RX1 42 yJ9_floorMod_7cf53, Cond.static yJ9_floorMod_7cf53, Cond.initialized RJ9, Cond.code yJ9_floorMod_7cf53 cJ9_floorMod_7cf53 3 (some .int), Cond.methodLink RX6 166 yX5_tick, Cond.instanceMethod yX5_tick, Cond.selects RX5 yX5_tick yX5_tick, Cond.code yX5_tick cX5_tick 3 none, Cond.fieldLink RX5 50 "GridInverter$Inverter" "power" "I", Cond.fieldLink RX5 53 "GridInverter$Loop" "frequency" "I", Cond.fieldLink RX5 64 "GridInverter$Line" "frequency" "I", Cond.fieldLink RX5 69 "GridInverter$Line" "angle" "I"]
def wsX6_relockTime_r6 : List Cond := [Cond.fieldLink RX5 72 "GridInverter$Line" "voltage" "I", Cond.fieldLink RX5 81 "GridInverter$Inverter" "mode" "I", Cond.methodLink RX5 56 yX0_drifted, Cond.instanceMethod yX0_drifted, Cond.selects RX0 yX0_drifted yX0_drifted, Cond.code yX0_drifted cX0_drifted 2 (some .int), Cond.constant RX0 57 (50000), Cond.methodLink RX5 60 yX1_settle, Cond.instanceMethod yX1_settle, Cond.selects RX1 yX1_settle yX1_settle, Cond.code yX1_settle cX1_settle 3 none, Cond.methodLink RX1 48 yX1_islandVoltage, Cond.instanceMethod yX1_islandVoltage, Cond.selects RX1 yX1_islandVoltage yX1_islandVoltage, Cond.code yX1_islandVoltage cX1_islandVoltage 2 (some .int), Cond.methodLink RX1 55 Lib.Math.min.name, Cond.methodLink RX1 52 yX1_islandFrequency, Cond.instanceMethod yX1_islandFrequency, Cond.selects RX1 yX1_islandFrequency yX1_islandFrequency, Cond.code yX1_islandFrequency cX1_islandFrequency 4 (some .int), Cond.static yX6_limitedFrequency, Cond.code yX6_limitedFrequency cX6_limitedFrequency 1 (some .int), Cond.constant RX6 96 (40000), Cond.constant RX6 97 (70000)]
def wsX6_relockTime_r7 : List Cond := [Cond.methodLink RX6 259 Lib.Math.max.name, Cond.static Lib.Math.max.name, Cond.code Lib.Math.max.name Lib.Math.max.code 2 (some .int), Cond.methodLink RX5 65 yX1_turn, Cond.methodLink RX5 75 yX3_follow, Cond.instanceMethod yX3_follow, Cond.selects RX3 yX3_follow yX3_follow, Cond.code yX3_follow cX3_follow 4 none, Cond.constant RX3 41 (500000), Cond.constant RX3 42 (1000000), Cond.methodLink RX3 43 yJ9_floorMod_7cf53, Cond.methodLink RX5 78 yX3_changeUntil, Cond.instanceMethod yX3_changeUntil, Cond.selects RX3 yX3_changeUntil yX3_changeUntil, Cond.code yX3_changeUntil cX3_changeUntil 4 (some .int), Cond.methodLink RX5 84 yX5_protect, Cond.instanceMethod yX5_protect, Cond.selects RX5 yX5_protect yX5_protect, Cond.code yX5_protect cX5_protect 3 none, Cond.methodLink RX5 93 yX3_holdsLock, Cond.instanceMethod yX3_holdsLock, Cond.selects RX3 yX3_holdsLock yX3_holdsLock, Cond.code yX3_holdsLock cX3_holdsLock 1 (some .boolean), Cond.methodLink RX5 97 yX5_trip]
def wsX6_relockTime_r8 : List Cond := [Cond.instanceMethod yX5_trip, Cond.selects RX5 yX5_trip yX5_trip, Cond.code yX5_trip cX5_trip 2 none, Cond.fieldLink RX5 111 "GridInverter$Inverter" "readyCount" "I", Cond.methodLink RX5 120 yX2_append, Cond.instanceMethod yX2_append, Cond.selects RX2 yX2_append yX2_append, Cond.code yX2_append cX2_append 4 none, Cond.methodLink RX2 22 yJ9_floorMod_7cf53, Cond.methodLink RX5 100 yX4_countViolations, Cond.instanceMethod yX4_countViolations, Cond.selects RX4 yX4_countViolations yX4_countViolations, Cond.code yX4_countViolations cX4_countViolations 7 (some .int), Cond.methodLink RX4 32 yX4_isViolated, Cond.static yX4_isViolated, Cond.code yX4_isViolated cX4_isViolated 5 (some .boolean), Cond.methodLink RX5 104 yX0_raisePower, Cond.instanceMethod yX0_raisePower, Cond.selects RX0 yX0_raisePower yX0_raisePower, Cond.code yX0_raisePower cX0_raisePower 1 none, Cond.methodLink RX0 62 Lib.Math.min.name, Cond.methodLink RX5 87 yX5_prepare, Cond.instanceMethod yX5_prepare, Cond.selects RX5 yX5_prepare yX5_prepare]
def wsX6_relockTime_r9 : List Cond := [Cond.code yX5_prepare cX5_prepare 2 none, Cond.fieldLink RX5 114 "GridInverter$Inverter" "delay" "I", Cond.methodLink RX5 107 yX0_admits, Cond.instanceMethod yX0_admits, Cond.selects RX0 yX0_admits yX0_admits, Cond.code yX0_admits cX0_admits 3 (some .boolean), Cond.methodLink RX5 117 yX4_forgetViolations, Cond.instanceMethod yX4_forgetViolations, Cond.selects RX4 yX4_forgetViolations yX4_forgetViolations, Cond.code yX4_forgetViolations cX4_forgetViolations 2 none, Cond.methodLink RX5 90 yX0_account, Cond.instanceMethod yX0_account, Cond.selects RX0 yX0_account yX0_account, Cond.code yX0_account cX0_account 1 none, Cond.methodLink RX6 175 yX3_holdsLock]
def wsX6_relockTime : List Cond := .code yX6_relockTime cX6_relockTime 4 (some .int) :: ((wsX6_relockTime_r1 ++ (wsX6_relockTime_r2 ++ (wsX6_relockTime_r3 ++ (wsX6_relockTime_r4 ++ (wsX6_relockTime_r5 ++ (wsX6_relockTime_r6 ++ (wsX6_relockTime_r7 ++ (wsX6_relockTime_r8 ++ wsX6_relockTime_r9)))))))) ++ wsX60 ++ wsX50 ++ wsX30 ++ wsX10 ++ wsX00 ++ wsX40 ++ wsX20 ++ (vx_atS RX6 33 "java/lang/IllegalArgumentException" ["java/lang/RuntimeException", "java/lang/Exception"]).filter goodWord)
def wsX6_save_r1 : List Cond := [Cond.classLink RX6 29 "java/lang/IllegalArgumentException", Cond.initialized "java/lang/IllegalArgumentException", Cond.fieldLink RX6 19 "GridInverter" "slots" "[LGridInverter$Simulation;", Cond.classLink RX6 7 RX5, Cond.instantiable RX5 6, Cond.initialized RX5, Cond.fieldLink RX6 10 "GridInverter" "present" "LGridInverter$Simulation;", Cond.methodLink RX6 23 yX6_outside, Cond.static yX6_outside, Cond.initialized RX6, Cond.code yX6_outside cX6_outside 3 (some .boolean), Cond.instanceMethod yX5_init, Cond.code yX5_init cX5_init 1 none, Cond.methodLink RX5 3 objectInit, Cond.instanceMethod objectInit, Cond.code objectInit ⟨#[0xb1]⟩ 1 none, Cond.fieldLink RX5 9 "GridInverter$Simulation" "time" "I", Cond.classLink RX5 15 RX1, Cond.instantiable RX1 9, Cond.initialized RX1, Cond.fieldLink RX5 18 "GridInverter$Simulation" "line" "LGridInverter$Line;", Cond.classLink RX5 22 RX3, Cond.instantiable RX3 9, Cond.initialized RX3]
def wsX6_save_r2 : List Cond := [Cond.fieldLink RX5 25 "GridInverter$Simulation" "loop" "LGridInverter$Loop;", Cond.classLink RX5 29 RX0, Cond.instantiable RX0 14, Cond.initialized RX0, Cond.fieldLink RX5 32 "GridInverter$Simulation" "inverter" "LGridInverter$Inverter;", Cond.classLink RX5 36 RX4, Cond.instantiable RX4 5, Cond.initialized RX4, Cond.fieldLink RX5 39 "GridInverter$Simulation" "rules" "LGridInverter$Rules;", Cond.classLink RX5 43 RX2, Cond.instantiable RX2 3, Cond.initialized RX2, Cond.fieldLink RX5 46 "GridInverter$Simulation" "log" "LGridInverter$Log;", Cond.instanceMethod yX1_init, Cond.code yX1_init cX1_init 1 none, Cond.methodLink RX1 3 objectInit, Cond.fieldLink RX1 9 "GridInverter$Line" "voltage" "I", Cond.constant RX1 15 (50000), Cond.fieldLink RX1 16 "GridInverter$Line" "frequency" "I", Cond.fieldLink RX1 19 "GridInverter$Line" "angle" "I", Cond.fieldLink RX1 22 "GridInverter$Line" "connected" "Z", Cond.fieldLink RX1 26 "GridInverter$Line" "gridVoltage" "I", Cond.fieldLink RX1 29 "GridInverter$Line" "gridFrequency" "I", Cond.fieldLink RX1 32 "GridInverter$Line" "load" "I"]
def wsX6_save_r3 : List Cond := [Cond.fieldLink RX1 35 "GridInverter$Line" "resonance" "I", Cond.fieldLink RX1 38 "GridInverter$Line" "quality" "I", Cond.methodLink RX5 24 yX3_init, Cond.instanceMethod yX3_init, Cond.code yX3_init cX3_init 2 none, Cond.methodLink RX3 3 objectInit, Cond.fieldLink RX3 9 "GridInverter$Loop" "angle" "I", Cond.constant RX3 15 (50000), Cond.fieldLink RX3 16 "GridInverter$Loop" "frequency" "I", Cond.fieldLink RX3 19 "GridInverter$Loop" "error" "I", Cond.fieldLink RX3 22 "GridInverter$Loop" "kp" "I", Cond.fieldLink RX3 25 "GridInverter$Loop" "ki" "I", Cond.fieldLink RX3 28 "GridInverter$Loop" "tolerance" "I", Cond.fieldLink RX3 31 "GridInverter$Loop" "lockTime" "I", Cond.fieldLink RX3 34 "GridInverter$Loop" "lockCount" "I", Cond.arrayClass .int, Cond.fieldLink RX3 37 "GridInverter$Loop" "past" "[I", Cond.instanceMethod yX0_init, Cond.code yX0_init cX0_init 1 none, Cond.methodLink RX0 3 objectInit, Cond.fieldLink RX0 9 "GridInverter$Inverter" "mode" "I", Cond.fieldLink RX0 15 "GridInverter$Inverter" "power" "I", Cond.fieldLink RX0 18 "GridInverter$Inverter" "rating" "I", Cond.fieldLink RX0 21 "GridInverter$Inverter" "delay" "I"]
def wsX6_save_r4 : List Cond := [Cond.fieldLink RX0 24 "GridInverter$Inverter" "ramp" "I", Cond.fieldLink RX0 27 "GridInverter$Inverter" "readyCount" "I", Cond.fieldLink RX0 30 "GridInverter$Inverter" "lowVoltage" "I", Cond.fieldLink RX0 33 "GridInverter$Inverter" "highVoltage" "I", Cond.constant RX0 36 (49000), Cond.fieldLink RX0 37 "GridInverter$Inverter" "lowFrequency" "I", Cond.constant RX0 40 (51000), Cond.fieldLink RX0 41 "GridInverter$Inverter" "highFrequency" "I", Cond.fieldLink RX0 44 "GridInverter$Inverter" "shift" "I", Cond.fieldLink RX0 47 "GridInverter$Inverter" "gain" "I", Cond.fieldLink RX0 50 "GridInverter$Inverter" "energy" "J", Cond.fieldLink RX0 54 "GridInverter$Inverter" "runningTicks" "I", Cond.instanceMethod yX4_init, Cond.code yX4_init cX4_init 1 none, Cond.methodLink RX4 3 objectInit, Cond.fieldLink RX4 9 "GridInverter$Rules" "size" "I", Cond.fieldLink RX4 15 "GridInverter$Rules" "kinds" "[I", Cond.fieldLink RX4 19 "GridInverter$Rules" "thresholds" "[I", Cond.fieldLink RX4 22 "GridInverter$Rules" "durations" "[I", Cond.fieldLink RX4 25 "GridInverter$Rules" "counts" "[I", Cond.instanceMethod yX2_init, Cond.code yX2_init cX2_init 1 none, Cond.methodLink RX2 3 objectInit, Cond.fieldLink RX2 9 "GridInverter$Log" "size" "I"]
def wsX6_save_r5 : List Cond := [Cond.fieldLink RX2 15 "GridInverter$Log" "times" "[I", Cond.fieldLink RX2 19 "GridInverter$Log" "causes" "[I", Cond.methodLink RX6 245 yX5_takeFrom, Cond.instanceMethod yX5_takeFrom, Cond.selects RX5 yX5_takeFrom yX5_takeFrom, Cond.code yX5_takeFrom cX5_takeFrom 2 none, Cond.methodLink RX5 123 yX1_takeFrom, Cond.instanceMethod yX1_takeFrom, Cond.selects RX1 yX1_takeFrom yX1_takeFrom, Cond.code yX1_takeFrom cX1_takeFrom 2 none, Cond.methodLink RX1 61 yX1_becomeIsland, Cond.instanceMethod yX1_becomeIsland, Cond.selects RX1 yX1_becomeIsland yX1_becomeIsland, Cond.code yX1_becomeIsland cX1_becomeIsland 4 none, Cond.methodLink RX5 127 yX3_takeFrom, Cond.instanceMethod yX3_takeFrom, Cond.selects RX3 yX3_takeFrom yX3_takeFrom, Cond.code yX3_takeFrom cX3_takeFrom 2 none, Cond.static yX6_copyRow, Cond.code yX6_copyRow cX6_copyRow 2 none, Cond.methodLink RX6 253 Lib.Math.min.name, Cond.static Lib.Math.min.name, Cond.initialized "java/lang/Math", Cond.code Lib.Math.min.name Lib.Math.min.code 2 (some .int)]
def wsX6_save_r6 : List Cond := [Cond.methodLink RX6 262 arraycopyName, Cond.native arraycopyName, Cond.static arraycopyName, Cond.initialized "java/lang/System", Cond.methodLink RX5 130 yX0_takeFrom, Cond.instanceMethod yX0_takeFrom, Cond.selects RX0 yX0_takeFrom yX0_takeFrom, Cond.code yX0_takeFrom cX0_takeFrom 2 none, Cond.methodLink RX5 133 yX4_takeFrom, Cond.instanceMethod yX4_takeFrom, Cond.selects RX4 yX4_takeFrom yX4_takeFrom, Cond.code yX4_takeFrom cX4_takeFrom 2 none, Cond.methodLink RX5 136 yX2_takeFrom, Cond.instanceMethod yX2_takeFrom, Cond.selects RX2 yX2_takeFrom yX2_takeFrom, Cond.code yX2_takeFrom cX2_takeFrom 2 none]
def wsX6_save : List Cond := .code yX6_save cX6_save 3 none :: ((wsX6_save_r1 ++ (wsX6_save_r2 ++ (wsX6_save_r3 ++ (wsX6_save_r4 ++ (wsX6_save_r5 ++ wsX6_save_r6))))) ++ wsX60 ++ wsX50 ++ wsX10 ++ wsX30 ++ wsX00 ++ wsX40 ++ wsX20 ++ (vx_atS RX6 33 "java/lang/IllegalArgumentException" ["java/lang/RuntimeException", "java/lang/Exception"]).filter goodWord)
def wsX6_restore_r1 : List Cond := [Cond.classLink RX6 29 "java/lang/IllegalArgumentException", Cond.initialized "java/lang/IllegalArgumentException", Cond.classLink RX6 149 "java/lang/IllegalStateException", Cond.initialized "java/lang/IllegalStateException", Cond.fieldLink RX6 19 "GridInverter" "slots" "[LGridInverter$Simulation;", Cond.fieldLink RX6 10 "GridInverter" "present" "LGridInverter$Simulation;", Cond.methodLink RX6 23 yX6_outside, Cond.static yX6_outside, Cond.initialized RX6, Cond.code yX6_outside cX6_outside 3 (some .boolean), Cond.methodLink RX6 245 yX5_takeFrom, Cond.instanceMethod yX5_takeFrom, Cond.selects RX5 yX5_takeFrom yX5_takeFrom, Cond.initialized RX5, Cond.code yX5_takeFrom cX5_takeFrom 2 none, Cond.fieldLink RX5 9 "GridInverter$Simulation" "time" "I", Cond.fieldLink RX5 18 "GridInverter$Simulation" "line" "LGridInverter$Line;", Cond.fieldLink RX5 25 "GridInverter$Simulation" "loop" "LGridInverter$Loop;", Cond.fieldLink RX5 32 "GridInverter$Simulation" "inverter" "LGridInverter$Inverter;", Cond.fieldLink RX5 39 "GridInverter$Simulation" "rules" "LGridInverter$Rules;", Cond.fieldLink RX5 46 "GridInverter$Simulation" "log" "LGridInverter$Log;", Cond.methodLink RX5 123 yX1_takeFrom, Cond.instanceMethod yX1_takeFrom, Cond.selects RX1 yX1_takeFrom yX1_takeFrom]
def wsX6_restore_r2 : List Cond := [Cond.initialized RX1, Cond.code yX1_takeFrom cX1_takeFrom 2 none, Cond.fieldLink RX1 9 "GridInverter$Line" "voltage" "I", Cond.fieldLink RX1 16 "GridInverter$Line" "frequency" "I", Cond.fieldLink RX1 19 "GridInverter$Line" "angle" "I", Cond.fieldLink RX1 22 "GridInverter$Line" "connected" "Z", Cond.fieldLink RX1 26 "GridInverter$Line" "gridVoltage" "I", Cond.fieldLink RX1 29 "GridInverter$Line" "gridFrequency" "I", Cond.fieldLink RX1 32 "GridInverter$Line" "load" "I", Cond.fieldLink RX1 35 "GridInverter$Line" "resonance" "I", Cond.fieldLink RX1 38 "GridInverter$Line" "quality" "I", Cond.methodLink RX1 61 yX1_becomeIsland, Cond.instanceMethod yX1_becomeIsland, Cond.selects RX1 yX1_becomeIsland yX1_becomeIsland, Cond.code yX1_becomeIsland cX1_becomeIsland 4 none, Cond.methodLink RX5 127 yX3_takeFrom, Cond.instanceMethod yX3_takeFrom, Cond.selects RX3 yX3_takeFrom yX3_takeFrom, Cond.initialized RX3, Cond.code yX3_takeFrom cX3_takeFrom 2 none, Cond.fieldLink RX3 9 "GridInverter$Loop" "angle" "I", Cond.fieldLink RX3 16 "GridInverter$Loop" "frequency" "I", Cond.fieldLink RX3 19 "GridInverter$Loop" "error" "I", Cond.fieldLink RX3 22 "GridInverter$Loop" "kp" "I"]
def wsX6_restore_r3 : List Cond := [Cond.fieldLink RX3 25 "GridInverter$Loop" "ki" "I", Cond.fieldLink RX3 28 "GridInverter$Loop" "tolerance" "I", Cond.fieldLink RX3 31 "GridInverter$Loop" "lockTime" "I", Cond.fieldLink RX3 34 "GridInverter$Loop" "lockCount" "I", Cond.fieldLink RX3 37 "GridInverter$Loop" "past" "[I", Cond.static yX6_copyRow, Cond.code yX6_copyRow cX6_copyRow 2 none, Cond.methodLink RX6 253 Lib.Math.min.name, Cond.static Lib.Math.min.name, Cond.initialized "java/lang/Math", Cond.code Lib.Math.min.name Lib.Math.min.code 2 (some .int), Cond.methodLink RX6 262 arraycopyName, Cond.native arraycopyName, Cond.static arraycopyName, Cond.initialized "java/lang/System", Cond.methodLink RX5 130 yX0_takeFrom, Cond.instanceMethod yX0_takeFrom, Cond.selects RX0 yX0_takeFrom yX0_takeFrom, Cond.initialized RX0, Cond.code yX0_takeFrom cX0_takeFrom 2 none, Cond.fieldLink RX0 9 "GridInverter$Inverter" "mode" "I", Cond.fieldLink RX0 15 "GridInverter$Inverter" "power" "I", Cond.fieldLink RX0 18 "GridInverter$Inverter" "rating" "I", Cond.fieldLink RX0 21 "GridInverter$Inverter" "delay" "I"]
def wsX6_restore_r4 : List Cond := [Cond.fieldLink RX0 24 "GridInverter$Inverter" "ramp" "I", Cond.fieldLink RX0 27 "GridInverter$Inverter" "readyCount" "I", Cond.fieldLink RX0 30 "GridInverter$Inverter" "lowVoltage" "I", Cond.fieldLink RX0 33 "GridInverter$Inverter" "highVoltage" "I", Cond.fieldLink RX0 37 "GridInverter$Inverter" "lowFrequency" "I", Cond.fieldLink RX0 41 "GridInverter$Inverter" "highFrequency" "I", Cond.fieldLink RX0 44 "GridInverter$Inverter" "shift" "I", Cond.fieldLink RX0 47 "GridInverter$Inverter" "gain" "I", Cond.fieldLink RX0 50 "GridInverter$Inverter" "energy" "J", Cond.fieldLink RX0 54 "GridInverter$Inverter" "runningTicks" "I", Cond.methodLink RX5 133 yX4_takeFrom, Cond.instanceMethod yX4_takeFrom, Cond.selects RX4 yX4_takeFrom yX4_takeFrom, Cond.initialized RX4, Cond.code yX4_takeFrom cX4_takeFrom 2 none, Cond.fieldLink RX4 9 "GridInverter$Rules" "size" "I", Cond.fieldLink RX4 15 "GridInverter$Rules" "kinds" "[I", Cond.fieldLink RX4 19 "GridInverter$Rules" "thresholds" "[I", Cond.fieldLink RX4 22 "GridInverter$Rules" "durations" "[I", Cond.fieldLink RX4 25 "GridInverter$Rules" "counts" "[I", Cond.methodLink RX5 136 yX2_takeFrom, Cond.instanceMethod yX2_takeFrom, Cond.selects RX2 yX2_takeFrom yX2_takeFrom, Cond.initialized RX2]
def wsX6_restore_r5 : List Cond := [Cond.code yX2_takeFrom cX2_takeFrom 2 none, Cond.fieldLink RX2 9 "GridInverter$Log" "size" "I", Cond.fieldLink RX2 15 "GridInverter$Log" "times" "[I", Cond.fieldLink RX2 19 "GridInverter$Log" "causes" "[I"]
def wsX6_restore : List Cond := .code yX6_restore cX6_restore 3 none :: ((wsX6_restore_r1 ++ (wsX6_restore_r2 ++ (wsX6_restore_r3 ++ (wsX6_restore_r4 ++ wsX6_restore_r5)))) ++ wsX60 ++ wsX50 ++ wsX10 ++ wsX30 ++ wsX00 ++ wsX40 ++ wsX20 ++ (vx_atS RX6 33 "java/lang/IllegalArgumentException" ["java/lang/RuntimeException", "java/lang/Exception"]).filter goodWord ++ (vx_atS RX6 153 "java/lang/IllegalStateException" ["java/lang/RuntimeException", "java/lang/Exception"]).filter goodWord)
def wsX7_init : List Cond := .code yX7_init cX7_init 2 none :: ([.methodLink RX7 1 objectInit, .instanceMethod objectInit, .code objectInit ⟨#[0xb1]⟩ 1 none, .arrayClass .int, .fieldLink RX7 7 "GridInverterModel" "at" "[I", .fieldLink RX7 13 "GridInverterModel" "aside" "[I", .fieldLink RX7 16 "GridInverterModel" "slots" "[I", .arrayClass .long, .fieldLink RX7 19 "GridInverterModel" "slotEnergy" "[J", .arrayClass .boolean, .fieldLink RX7 23 "GridInverterModel" "isSaved" "[Z", .constant RX7 27 (50000), .constant RX7 28 (49000), .constant RX7 29 (51000)] ++ wsX70)
def wsX7_thrown : List Cond := .code yX7_thrown cX7_thrown 1 (some .int) :: ([.fieldLink RX7 30 "GridInverterModel" "thrown" "I"] ++ wsX70)
def wsX7_in : List Cond := .code yX7_in cX7_in 3 (some .boolean) :: ([])
def wsX7_round : List Cond := .code yX7_round cX7_round 2 (some .int) :: ([.constant RX7 34 (1000000)])
def wsX7_limited : List Cond := .code yX7_limited cX7_limited 3 (some .int) :: ([])
def wsX7_setGrid : List Cond := .code yX7_setGrid cX7_setGrid 3 none :: ([.constant RX7 39 (45000), .constant RX7 40 (65000), .fieldLink RX7 30 "GridInverterModel" "thrown" "I", .fieldLink RX7 7 "GridInverterModel" "at" "[I", .methodLink RX7 35 yX7_in, .static yX7_in, .initialized RX7, .code yX7_in cX7_in 3 (some .boolean)] ++ wsX70)
def wsX7_jump : List Cond := .code yX7_jump cX7_jump 2 (some .int) :: ([.constant RX7 41 (-500000), .constant RX7 42 (500000), .fieldLink RX7 30 "GridInverterModel" "thrown" "I", .fieldLink RX7 7 "GridInverterModel" "at" "[I", .methodLink RX7 35 yX7_in, .static yX7_in, .initialized RX7, .code yX7_in cX7_in 3 (some .boolean), .methodLink RX7 43 yX7_round, .static yX7_round, .code yX7_round cX7_round 2 (some .int), .constant RX7 34 (1000000)] ++ wsX70)
def wsX7_connect : List Cond := .code yX7_connect cX7_connect 3 (some .boolean) :: ([.fieldLink RX7 30 "GridInverterModel" "thrown" "I", .fieldLink RX7 7 "GridInverterModel" "at" "[I"] ++ wsX70)
def wsX7_isIsland : List Cond := .code yX7_isIsland cX7_isIsland 3 (some .boolean) :: ([.constant RX7 39 (45000), .constant RX7 40 (65000), .methodLink RX7 35 yX7_in, .static yX7_in, .initialized RX7, .code yX7_in cX7_in 3 (some .boolean)])
def wsX7_becomeIsland : List Cond := .code yX7_becomeIsland cX7_becomeIsland 4 none :: ([.fieldLink RX7 7 "GridInverterModel" "at" "[I"] ++ wsX70)
def wsX7_setLoad : List Cond := .code yX7_setLoad cX7_setLoad 4 none :: ([.fieldLink RX7 30 "GridInverterModel" "thrown" "I", .methodLink RX7 47 yX7_isIsland, .static yX7_isIsland, .initialized RX7, .code yX7_isIsland cX7_isIsland 3 (some .boolean), .constant RX7 39 (45000), .constant RX7 40 (65000), .methodLink RX7 35 yX7_in, .static yX7_in, .code yX7_in cX7_in 3 (some .boolean), .methodLink RX7 50 yX7_becomeIsland, .instanceMethod yX7_becomeIsland, .selects RX7 yX7_becomeIsland yX7_becomeIsland, .code yX7_becomeIsland cX7_becomeIsland 4 none, .fieldLink RX7 7 "GridInverterModel" "at" "[I"] ++ wsX70)
def wsX7_setLoop : List Cond := .code yX7_setLoop cX7_setLoop 3 none :: ([.fieldLink RX7 30 "GridInverterModel" "thrown" "I", .fieldLink RX7 7 "GridInverterModel" "at" "[I", .methodLink RX7 35 yX7_in, .static yX7_in, .initialized RX7, .code yX7_in cX7_in 3 (some .boolean)] ++ wsX70)
def wsX7_setLock : List Cond := .code yX7_setLock cX7_setLock 3 none :: ([.constant RX7 54 (100000), .fieldLink RX7 30 "GridInverterModel" "thrown" "I", .fieldLink RX7 7 "GridInverterModel" "at" "[I", .methodLink RX7 35 yX7_in, .static yX7_in, .initialized RX7, .code yX7_in cX7_in 3 (some .boolean)] ++ wsX70)
def wsX7_setWindow : List Cond := .code yX7_setWindow cX7_setWindow 6 none :: ([.constant RX7 55 (40000), .constant RX7 56 (70000), .fieldLink RX7 30 "GridInverterModel" "thrown" "I", .fieldLink RX7 7 "GridInverterModel" "at" "[I", .methodLink RX7 35 yX7_in, .static yX7_in, .initialized RX7, .code yX7_in cX7_in 3 (some .boolean)] ++ wsX70)
def wsX7_setPower : List Cond := .code yX7_setPower cX7_setPower 4 none :: ([.fieldLink RX7 30 "GridInverterModel" "thrown" "I", .fieldLink RX7 7 "GridInverterModel" "at" "[I", .methodLink RX7 35 yX7_in, .static yX7_in, .initialized RX7, .code yX7_in cX7_in 3 (some .boolean)] ++ wsX70)
def wsX7_setDrift : List Cond := .code yX7_setDrift cX7_setDrift 3 none :: ([.fieldLink RX7 30 "GridInverterModel" "thrown" "I", .fieldLink RX7 7 "GridInverterModel" "at" "[I", .methodLink RX7 35 yX7_in, .static yX7_in, .initialized RX7, .code yX7_in cX7_in 3 (some .boolean)] ++ wsX70)
def wsX7_addRule : List Cond := .code yX7_addRule cX7_addRule 5 (some .int) :: ([.constant RX7 56 (70000), .fieldLink RX7 7 "GridInverterModel" "at" "[I", .fieldLink RX7 30 "GridInverterModel" "thrown" "I", .methodLink RX7 35 yX7_in, .static yX7_in, .initialized RX7, .code yX7_in cX7_in 3 (some .boolean)] ++ wsX70)
def wsX7_clearRules : List Cond := .code yX7_clearRules cX7_clearRules 2 (some .int) :: ([.fieldLink RX7 30 "GridInverterModel" "thrown" "I", .fieldLink RX7 7 "GridInverterModel" "at" "[I"] ++ wsX70)
def wsX7_note : List Cond := .code yX7_note cX7_note 2 none :: ([.fieldLink RX7 7 "GridInverterModel" "at" "[I"] ++ wsX70)
def wsX7_start : List Cond := .code yX7_start cX7_start 2 (some .boolean) :: ([.fieldLink RX7 30 "GridInverterModel" "thrown" "I", .fieldLink RX7 7 "GridInverterModel" "at" "[I"] ++ wsX70)
def wsX7_stop : List Cond := .code yX7_stop cX7_stop 2 (some .boolean) :: ([.fieldLink RX7 30 "GridInverterModel" "thrown" "I", .fieldLink RX7 7 "GridInverterModel" "at" "[I", .methodLink RX7 57 yX7_note, .instanceMethod yX7_note, .selects RX7 yX7_note yX7_note, .initialized RX7, .code yX7_note cX7_note 2 none] ++ wsX70)
def wsX7_feedLine : List Cond := .code yX7_feedLine cX7_feedLine 4 none :: ([.fieldLink RX7 7 "GridInverterModel" "at" "[I", .constant RX7 27 (50000), .constant RX7 55 (40000), .constant RX7 56 (70000), .methodLink RX7 61 yX7_limited, .static yX7_limited, .initialized RX7, .code yX7_limited cX7_limited 3 (some .int), .methodLink RX7 43 yX7_round, .static yX7_round, .code yX7_round cX7_round 2 (some .int), .constant RX7 34 (1000000)] ++ wsX70)
def wsX7_follow : List Cond := .code yX7_follow cX7_follow 3 none :: ([.fieldLink RX7 7 "GridInverterModel" "at" "[I", .constant RX7 42 (500000), .constant RX7 34 (1000000), .constant RX7 55 (40000), .constant RX7 56 (70000), .methodLink RX7 43 yX7_round, .static yX7_round, .initialized RX7, .code yX7_round cX7_round 2 (some .int), .methodLink RX7 61 yX7_limited, .static yX7_limited, .code yX7_limited cX7_limited 3 (some .int), .methodLink RX7 35 yX7_in, .static yX7_in, .code yX7_in cX7_in 3 (some .boolean)] ++ wsX70)
def wsX7_hasLock : List Cond := .code yX7_hasLock cX7_hasLock 1 (some .boolean) :: ([.fieldLink RX7 7 "GridInverterModel" "at" "[I"] ++ wsX70)
def wsX7_isViolated : List Cond := .code yX7_isViolated cX7_isViolated 4 (some .boolean) :: ([.fieldLink RX7 7 "GridInverterModel" "at" "[I"] ++ wsX70)
def wsX7_trip : List Cond := .code yX7_trip cX7_trip 2 none :: ([.fieldLink RX7 7 "GridInverterModel" "at" "[I", .methodLink RX7 57 yX7_note, .instanceMethod yX7_note, .selects RX7 yX7_note yX7_note, .initialized RX7, .code yX7_note cX7_note 2 none] ++ wsX70)
def wsX7_run : List Cond := .code yX7_run cX7_run 3 none :: ([.fieldLink RX7 7 "GridInverterModel" "at" "[I", .methodLink RX7 65 yX7_hasLock, .instanceMethod yX7_hasLock, .selects RX7 yX7_hasLock yX7_hasLock, .initialized RX7, .code yX7_hasLock cX7_hasLock 1 (some .boolean), .methodLink RX7 69 yX7_trip, .instanceMethod yX7_trip, .selects RX7 yX7_trip yX7_trip, .code yX7_trip cX7_trip 2 none, .methodLink RX7 57 yX7_note, .instanceMethod yX7_note, .selects RX7 yX7_note yX7_note, .code yX7_note cX7_note 2 none, .methodLink RX7 72 yX7_isViolated, .instanceMethod yX7_isViolated, .selects RX7 yX7_isViolated yX7_isViolated, .code yX7_isViolated cX7_isViolated 4 (some .boolean), .methodLink RX7 61 yX7_limited, .static yX7_limited, .code yX7_limited cX7_limited 3 (some .int)] ++ wsX70)
def wsX7_await : List Cond := .code yX7_await cX7_await 3 none :: ([.fieldLink RX7 7 "GridInverterModel" "at" "[I", .methodLink RX7 35 yX7_in, .static yX7_in, .initialized RX7, .code yX7_in cX7_in 3 (some .boolean), .methodLink RX7 65 yX7_hasLock, .instanceMethod yX7_hasLock, .selects RX7 yX7_hasLock yX7_hasLock, .code yX7_hasLock cX7_hasLock 1 (some .boolean), .methodLink RX7 61 yX7_limited, .static yX7_limited, .code yX7_limited cX7_limited 3 (some .int), .methodLink RX7 57 yX7_note, .instanceMethod yX7_note, .selects RX7 yX7_note yX7_note, .code yX7_note cX7_note 2 none] ++ wsX70)
def wsX7_tick_r1 : List Cond := [Cond.fieldLink RX7 7 "GridInverterModel" "at" "[I", Cond.methodLink RX7 76 yX7_feedLine, Cond.instanceMethod yX7_feedLine, Cond.selects RX7 yX7_feedLine yX7_feedLine, Cond.initialized RX7, Cond.code yX7_feedLine cX7_feedLine 4 none, Cond.constant RX7 27 (50000), Cond.constant RX7 55 (40000), Cond.constant RX7 56 (70000), Cond.methodLink RX7 61 yX7_limited, Cond.static yX7_limited, Cond.code yX7_limited cX7_limited 3 (some .int), Cond.methodLink RX7 43 yX7_round, Cond.static yX7_round, Cond.code yX7_round cX7_round 2 (some .int), Cond.constant RX7 34 (1000000), Cond.methodLink RX7 79 yX7_follow, Cond.instanceMethod yX7_follow, Cond.selects RX7 yX7_follow yX7_follow, Cond.code yX7_follow cX7_follow 3 none, Cond.constant RX7 42 (500000), Cond.methodLink RX7 35 yX7_in, Cond.static yX7_in, Cond.code yX7_in cX7_in 3 (some .boolean)]
def wsX7_tick_r2 : List Cond := [Cond.methodLink RX7 82 yX7_run, Cond.instanceMethod yX7_run, Cond.selects RX7 yX7_run yX7_run, Cond.code yX7_run cX7_run 3 none, Cond.methodLink RX7 65 yX7_hasLock, Cond.instanceMethod yX7_hasLock, Cond.selects RX7 yX7_hasLock yX7_hasLock, Cond.code yX7_hasLock cX7_hasLock 1 (some .boolean), Cond.methodLink RX7 69 yX7_trip, Cond.instanceMethod yX7_trip, Cond.selects RX7 yX7_trip yX7_trip, Cond.code yX7_trip cX7_trip 2 none, Cond.methodLink RX7 57 yX7_note, Cond.instanceMethod yX7_note, Cond.selects RX7 yX7_note yX7_note, Cond.code yX7_note cX7_note 2 none, Cond.methodLink RX7 72 yX7_isViolated, Cond.instanceMethod yX7_isViolated, Cond.selects RX7 yX7_isViolated yX7_isViolated, Cond.code yX7_isViolated cX7_isViolated 4 (some .boolean), Cond.methodLink RX7 85 yX7_await, Cond.instanceMethod yX7_await, Cond.selects RX7 yX7_await yX7_await, Cond.code yX7_await cX7_await 3 none]
def wsX7_tick : List Cond := .code yX7_tick cX7_tick 1 none :: ((wsX7_tick_r1 ++ wsX7_tick_r2) ++ wsX70)
def wsX7_advance_r1 : List Cond := [Cond.fieldLink RX7 30 "GridInverterModel" "thrown" "I", Cond.fieldLink RX7 91 "GridInverterModel" "energy" "J", Cond.fieldLink RX7 7 "GridInverterModel" "at" "[I", Cond.methodLink RX7 35 yX7_in, Cond.static yX7_in, Cond.initialized RX7, Cond.code yX7_in cX7_in 3 (some .boolean), Cond.methodLink RX7 88 yX7_tick, Cond.instanceMethod yX7_tick, Cond.selects RX7 yX7_tick yX7_tick, Cond.code yX7_tick cX7_tick 1 none, Cond.methodLink RX7 76 yX7_feedLine, Cond.instanceMethod yX7_feedLine, Cond.selects RX7 yX7_feedLine yX7_feedLine, Cond.code yX7_feedLine cX7_feedLine 4 none, Cond.constant RX7 27 (50000), Cond.constant RX7 55 (40000), Cond.constant RX7 56 (70000), Cond.methodLink RX7 61 yX7_limited, Cond.static yX7_limited, Cond.code yX7_limited cX7_limited 3 (some .int), Cond.methodLink RX7 43 yX7_round, Cond.static yX7_round, Cond.code yX7_round cX7_round 2 (some .int)]
def wsX7_advance_r2 : List Cond := [Cond.constant RX7 34 (1000000), Cond.methodLink RX7 79 yX7_follow, Cond.instanceMethod yX7_follow, Cond.selects RX7 yX7_follow yX7_follow, Cond.code yX7_follow cX7_follow 3 none, Cond.constant RX7 42 (500000), Cond.methodLink RX7 82 yX7_run, Cond.instanceMethod yX7_run, Cond.selects RX7 yX7_run yX7_run, Cond.code yX7_run cX7_run 3 none, Cond.methodLink RX7 65 yX7_hasLock, Cond.instanceMethod yX7_hasLock, Cond.selects RX7 yX7_hasLock yX7_hasLock, Cond.code yX7_hasLock cX7_hasLock 1 (some .boolean), Cond.methodLink RX7 69 yX7_trip, Cond.instanceMethod yX7_trip, Cond.selects RX7 yX7_trip yX7_trip, Cond.code yX7_trip cX7_trip 2 none, Cond.methodLink RX7 57 yX7_note, Cond.instanceMethod yX7_note, Cond.selects RX7 yX7_note yX7_note, Cond.code yX7_note cX7_note 2 none, Cond.methodLink RX7 72 yX7_isViolated, Cond.instanceMethod yX7_isViolated]
def wsX7_advance_r3 : List Cond := [Cond.selects RX7 yX7_isViolated yX7_isViolated, Cond.code yX7_isViolated cX7_isViolated 4 (some .boolean), Cond.methodLink RX7 85 yX7_await, Cond.instanceMethod yX7_await, Cond.selects RX7 yX7_await yX7_await, Cond.code yX7_await cX7_await 3 none]
def wsX7_advance : List Cond := .code yX7_advance cX7_advance 3 (some .int) :: ((wsX7_advance_r1 ++ (wsX7_advance_r2 ++ wsX7_advance_r3)) ++ wsX70)
def wsX7_state : List Cond := .code yX7_state cX7_state 1 (some .int) :: ([.fieldLink RX7 30 "GridInverterModel" "thrown" "I", .fieldLink RX7 7 "GridInverterModel" "at" "[I"] ++ wsX70)
def wsX7_isLocked : List Cond := .code yX7_isLocked cX7_isLocked 1 (some .boolean) :: ([.fieldLink RX7 30 "GridInverterModel" "thrown" "I", .methodLink RX7 65 yX7_hasLock, .instanceMethod yX7_hasLock, .selects RX7 yX7_hasLock yX7_hasLock, .initialized RX7, .code yX7_hasLock cX7_hasLock 1 (some .boolean), .fieldLink RX7 7 "GridInverterModel" "at" "[I"] ++ wsX70)
def wsX7_measure : List Cond := .code yX7_measure cX7_measure 2 (some .int) :: ([.fieldLink RX7 30 "GridInverterModel" "thrown" "I", .fieldLink RX7 7 "GridInverterModel" "at" "[I", .methodLink RX7 35 yX7_in, .static yX7_in, .initialized RX7, .code yX7_in cX7_in 3 (some .boolean)] ++ wsX70)
def wsX7_violations : List Cond := .code yX7_violations cX7_violations 2 (some .int) :: ([.fieldLink RX7 7 "GridInverterModel" "at" "[I", .fieldLink RX7 30 "GridInverterModel" "thrown" "I", .methodLink RX7 35 yX7_in, .static yX7_in, .initialized RX7, .code yX7_in cX7_in 3 (some .boolean)] ++ wsX70)
def wsX7_energy : List Cond := .code yX7_energy cX7_energy 1 (some .long) :: ([.fieldLink RX7 30 "GridInverterModel" "thrown" "I", .fieldLink RX7 91 "GridInverterModel" "energy" "J"] ++ wsX70)
def wsX7_availability : List Cond := .code yX7_availability cX7_availability 1 (some .double) :: ([.fieldLink RX7 30 "GridInverterModel" "thrown" "I", .fieldLink RX7 7 "GridInverterModel" "at" "[I"] ++ wsX70)
def wsX7_events : List Cond := .code yX7_events cX7_events 1 (some .int) :: ([.fieldLink RX7 30 "GridInverterModel" "thrown" "I", .fieldLink RX7 7 "GridInverterModel" "at" "[I"] ++ wsX70)
def wsX7_event : List Cond := .code yX7_event cX7_event 3 (some .int) :: ([.fieldLink RX7 30 "GridInverterModel" "thrown" "I", .fieldLink RX7 7 "GridInverterModel" "at" "[I", .methodLink RX7 35 yX7_in, .static yX7_in, .initialized RX7, .code yX7_in cX7_in 3 (some .boolean)] ++ wsX70)
def wsX7_putAside : List Cond := .code yX7_putAside cX7_putAside 2 none :: ([.fieldLink RX7 13 "GridInverterModel" "aside" "[I", .fieldLink RX7 7 "GridInverterModel" "at" "[I"] ++ wsX70)
def wsX7_putBack : List Cond := .code yX7_putBack cX7_putBack 2 none :: ([.fieldLink RX7 7 "GridInverterModel" "at" "[I", .fieldLink RX7 13 "GridInverterModel" "aside" "[I"] ++ wsX70)
def wsX7_tryIsland_r1 : List Cond := [Cond.fieldLink RX7 7 "GridInverterModel" "at" "[I", Cond.methodLink RX7 95 yX7_putAside, Cond.instanceMethod yX7_putAside, Cond.selects RX7 yX7_putAside yX7_putAside, Cond.initialized RX7, Cond.code yX7_putAside cX7_putAside 2 none, Cond.fieldLink RX7 13 "GridInverterModel" "aside" "[I", Cond.methodLink RX7 50 yX7_becomeIsland, Cond.instanceMethod yX7_becomeIsland, Cond.selects RX7 yX7_becomeIsland yX7_becomeIsland, Cond.code yX7_becomeIsland cX7_becomeIsland 4 none, Cond.methodLink RX7 88 yX7_tick, Cond.instanceMethod yX7_tick, Cond.selects RX7 yX7_tick yX7_tick, Cond.code yX7_tick cX7_tick 1 none, Cond.methodLink RX7 76 yX7_feedLine, Cond.instanceMethod yX7_feedLine, Cond.selects RX7 yX7_feedLine yX7_feedLine, Cond.code yX7_feedLine cX7_feedLine 4 none, Cond.constant RX7 27 (50000), Cond.constant RX7 55 (40000), Cond.constant RX7 56 (70000), Cond.methodLink RX7 61 yX7_limited, Cond.static yX7_limited]
def wsX7_tryIsland_r2 : List Cond := [Cond.code yX7_limited cX7_limited 3 (some .int), Cond.methodLink RX7 43 yX7_round, Cond.static yX7_round, Cond.code yX7_round cX7_round 2 (some .int), Cond.constant RX7 34 (1000000), Cond.methodLink RX7 79 yX7_follow, Cond.instanceMethod yX7_follow, Cond.selects RX7 yX7_follow yX7_follow, Cond.code yX7_follow cX7_follow 3 none, Cond.constant RX7 42 (500000), Cond.methodLink RX7 35 yX7_in, Cond.static yX7_in, Cond.code yX7_in cX7_in 3 (some .boolean), Cond.methodLink RX7 82 yX7_run, Cond.instanceMethod yX7_run, Cond.selects RX7 yX7_run yX7_run, Cond.code yX7_run cX7_run 3 none, Cond.methodLink RX7 65 yX7_hasLock, Cond.instanceMethod yX7_hasLock, Cond.selects RX7 yX7_hasLock yX7_hasLock, Cond.code yX7_hasLock cX7_hasLock 1 (some .boolean), Cond.methodLink RX7 69 yX7_trip, Cond.instanceMethod yX7_trip, Cond.selects RX7 yX7_trip yX7_trip]
def wsX7_tryIsland_r3 : List Cond := [Cond.code yX7_trip cX7_trip 2 none, Cond.methodLink RX7 57 yX7_note, Cond.instanceMethod yX7_note, Cond.selects RX7 yX7_note yX7_note, Cond.code yX7_note cX7_note 2 none, Cond.methodLink RX7 72 yX7_isViolated, Cond.instanceMethod yX7_isViolated, Cond.selects RX7 yX7_isViolated yX7_isViolated, Cond.code yX7_isViolated cX7_isViolated 4 (some .boolean), Cond.methodLink RX7 85 yX7_await, Cond.instanceMethod yX7_await, Cond.selects RX7 yX7_await yX7_await, Cond.code yX7_await cX7_await 3 none, Cond.methodLink RX7 98 yX7_putBack, Cond.instanceMethod yX7_putBack, Cond.selects RX7 yX7_putBack yX7_putBack, Cond.code yX7_putBack cX7_putBack 2 none]
def wsX7_tryIsland : List Cond := .code yX7_tryIsland cX7_tryIsland 7 (some .int) :: ((wsX7_tryIsland_r1 ++ (wsX7_tryIsland_r2 ++ wsX7_tryIsland_r3)) ++ wsX70)
def wsX7_islandTime_r1 : List Cond := [Cond.fieldLink RX7 7 "GridInverterModel" "at" "[I", Cond.fieldLink RX7 30 "GridInverterModel" "thrown" "I", Cond.methodLink RX7 47 yX7_isIsland, Cond.static yX7_isIsland, Cond.initialized RX7, Cond.code yX7_isIsland cX7_isIsland 3 (some .boolean), Cond.constant RX7 39 (45000), Cond.constant RX7 40 (65000), Cond.methodLink RX7 35 yX7_in, Cond.static yX7_in, Cond.code yX7_in cX7_in 3 (some .boolean), Cond.methodLink RX7 101 yX7_tryIsland, Cond.instanceMethod yX7_tryIsland, Cond.selects RX7 yX7_tryIsland yX7_tryIsland, Cond.code yX7_tryIsland cX7_tryIsland 7 (some .int), Cond.methodLink RX7 95 yX7_putAside, Cond.instanceMethod yX7_putAside, Cond.selects RX7 yX7_putAside yX7_putAside, Cond.code yX7_putAside cX7_putAside 2 none, Cond.fieldLink RX7 13 "GridInverterModel" "aside" "[I", Cond.methodLink RX7 50 yX7_becomeIsland, Cond.instanceMethod yX7_becomeIsland, Cond.selects RX7 yX7_becomeIsland yX7_becomeIsland, Cond.code yX7_becomeIsland cX7_becomeIsland 4 none]
def wsX7_islandTime_r2 : List Cond := [Cond.methodLink RX7 88 yX7_tick, Cond.instanceMethod yX7_tick, Cond.selects RX7 yX7_tick yX7_tick, Cond.code yX7_tick cX7_tick 1 none, Cond.methodLink RX7 76 yX7_feedLine, Cond.instanceMethod yX7_feedLine, Cond.selects RX7 yX7_feedLine yX7_feedLine, Cond.code yX7_feedLine cX7_feedLine 4 none, Cond.constant RX7 27 (50000), Cond.constant RX7 55 (40000), Cond.constant RX7 56 (70000), Cond.methodLink RX7 61 yX7_limited, Cond.static yX7_limited, Cond.code yX7_limited cX7_limited 3 (some .int), Cond.methodLink RX7 43 yX7_round, Cond.static yX7_round, Cond.code yX7_round cX7_round 2 (some .int), Cond.constant RX7 34 (1000000), Cond.methodLink RX7 79 yX7_follow, Cond.instanceMethod yX7_follow, Cond.selects RX7 yX7_follow yX7_follow, Cond.code yX7_follow cX7_follow 3 none, Cond.constant RX7 42 (500000), Cond.methodLink RX7 82 yX7_run]
def wsX7_islandTime_r3 : List Cond := [Cond.instanceMethod yX7_run, Cond.selects RX7 yX7_run yX7_run, Cond.code yX7_run cX7_run 3 none, Cond.methodLink RX7 65 yX7_hasLock, Cond.instanceMethod yX7_hasLock, Cond.selects RX7 yX7_hasLock yX7_hasLock, Cond.code yX7_hasLock cX7_hasLock 1 (some .boolean), Cond.methodLink RX7 69 yX7_trip, Cond.instanceMethod yX7_trip, Cond.selects RX7 yX7_trip yX7_trip, Cond.code yX7_trip cX7_trip 2 none, Cond.methodLink RX7 57 yX7_note, Cond.instanceMethod yX7_note, Cond.selects RX7 yX7_note yX7_note, Cond.code yX7_note cX7_note 2 none, Cond.methodLink RX7 72 yX7_isViolated, Cond.instanceMethod yX7_isViolated, Cond.selects RX7 yX7_isViolated yX7_isViolated, Cond.code yX7_isViolated cX7_isViolated 4 (some .boolean), Cond.methodLink RX7 85 yX7_await, Cond.instanceMethod yX7_await, Cond.selects RX7 yX7_await yX7_await, Cond.code yX7_await cX7_await 3 none, Cond.methodLink RX7 98 yX7_putBack]
def wsX7_islandTime_r4 : List Cond := [Cond.instanceMethod yX7_putBack, Cond.selects RX7 yX7_putBack yX7_putBack, Cond.code yX7_putBack cX7_putBack 2 none]
def wsX7_islandTime : List Cond := .code yX7_islandTime cX7_islandTime 5 (some .int) :: ((wsX7_islandTime_r1 ++ (wsX7_islandTime_r2 ++ (wsX7_islandTime_r3 ++ wsX7_islandTime_r4))) ++ wsX70)
def wsX7_undetected_r1 : List Cond := [Cond.fieldLink RX7 7 "GridInverterModel" "at" "[I", Cond.fieldLink RX7 30 "GridInverterModel" "thrown" "I", Cond.methodLink RX7 35 yX7_in, Cond.static yX7_in, Cond.initialized RX7, Cond.code yX7_in cX7_in 3 (some .boolean), Cond.methodLink RX7 101 yX7_tryIsland, Cond.instanceMethod yX7_tryIsland, Cond.selects RX7 yX7_tryIsland yX7_tryIsland, Cond.code yX7_tryIsland cX7_tryIsland 7 (some .int), Cond.methodLink RX7 95 yX7_putAside, Cond.instanceMethod yX7_putAside, Cond.selects RX7 yX7_putAside yX7_putAside, Cond.code yX7_putAside cX7_putAside 2 none, Cond.fieldLink RX7 13 "GridInverterModel" "aside" "[I", Cond.methodLink RX7 50 yX7_becomeIsland, Cond.instanceMethod yX7_becomeIsland, Cond.selects RX7 yX7_becomeIsland yX7_becomeIsland, Cond.code yX7_becomeIsland cX7_becomeIsland 4 none, Cond.methodLink RX7 88 yX7_tick, Cond.instanceMethod yX7_tick, Cond.selects RX7 yX7_tick yX7_tick, Cond.code yX7_tick cX7_tick 1 none, Cond.methodLink RX7 76 yX7_feedLine]
def wsX7_undetected_r2 : List Cond := [Cond.instanceMethod yX7_feedLine, Cond.selects RX7 yX7_feedLine yX7_feedLine, Cond.code yX7_feedLine cX7_feedLine 4 none, Cond.constant RX7 27 (50000), Cond.constant RX7 55 (40000), Cond.constant RX7 56 (70000), Cond.methodLink RX7 61 yX7_limited, Cond.static yX7_limited, Cond.code yX7_limited cX7_limited 3 (some .int), Cond.methodLink RX7 43 yX7_round, Cond.static yX7_round, Cond.code yX7_round cX7_round 2 (some .int), Cond.constant RX7 34 (1000000), Cond.methodLink RX7 79 yX7_follow, Cond.instanceMethod yX7_follow, Cond.selects RX7 yX7_follow yX7_follow, Cond.code yX7_follow cX7_follow 3 none, Cond.constant RX7 42 (500000), Cond.methodLink RX7 82 yX7_run, Cond.instanceMethod yX7_run, Cond.selects RX7 yX7_run yX7_run, Cond.code yX7_run cX7_run 3 none, Cond.methodLink RX7 65 yX7_hasLock, Cond.instanceMethod yX7_hasLock]
def wsX7_undetected_r3 : List Cond := [Cond.selects RX7 yX7_hasLock yX7_hasLock, Cond.code yX7_hasLock cX7_hasLock 1 (some .boolean), Cond.methodLink RX7 69 yX7_trip, Cond.instanceMethod yX7_trip, Cond.selects RX7 yX7_trip yX7_trip, Cond.code yX7_trip cX7_trip 2 none, Cond.methodLink RX7 57 yX7_note, Cond.instanceMethod yX7_note, Cond.selects RX7 yX7_note yX7_note, Cond.code yX7_note cX7_note 2 none, Cond.methodLink RX7 72 yX7_isViolated, Cond.instanceMethod yX7_isViolated, Cond.selects RX7 yX7_isViolated yX7_isViolated, Cond.code yX7_isViolated cX7_isViolated 4 (some .boolean), Cond.methodLink RX7 85 yX7_await, Cond.instanceMethod yX7_await, Cond.selects RX7 yX7_await yX7_await, Cond.code yX7_await cX7_await 3 none, Cond.methodLink RX7 98 yX7_putBack, Cond.instanceMethod yX7_putBack, Cond.selects RX7 yX7_putBack yX7_putBack, Cond.code yX7_putBack cX7_putBack 2 none]
def wsX7_undetected : List Cond := .code yX7_undetected cX7_undetected 8 (some .int) :: ((wsX7_undetected_r1 ++ (wsX7_undetected_r2 ++ wsX7_undetected_r3)) ++ wsX70)
def wsX7_relockTime_r1 : List Cond := [Cond.constant RX7 41 (-500000), Cond.constant RX7 42 (500000), Cond.fieldLink RX7 30 "GridInverterModel" "thrown" "I", Cond.fieldLink RX7 7 "GridInverterModel" "at" "[I", Cond.methodLink RX7 35 yX7_in, Cond.static yX7_in, Cond.initialized RX7, Cond.code yX7_in cX7_in 3 (some .boolean), Cond.methodLink RX7 95 yX7_putAside, Cond.instanceMethod yX7_putAside, Cond.selects RX7 yX7_putAside yX7_putAside, Cond.code yX7_putAside cX7_putAside 2 none, Cond.fieldLink RX7 13 "GridInverterModel" "aside" "[I", Cond.methodLink RX7 43 yX7_round, Cond.static yX7_round, Cond.code yX7_round cX7_round 2 (some .int), Cond.constant RX7 34 (1000000), Cond.methodLink RX7 65 yX7_hasLock, Cond.instanceMethod yX7_hasLock, Cond.selects RX7 yX7_hasLock yX7_hasLock, Cond.code yX7_hasLock cX7_hasLock 1 (some .boolean), Cond.methodLink RX7 88 yX7_tick, Cond.instanceMethod yX7_tick, Cond.selects RX7 yX7_tick yX7_tick]
def wsX7_relockTime_r2 : List Cond := [Cond.code yX7_tick cX7_tick 1 none, Cond.methodLink RX7 76 yX7_feedLine, Cond.instanceMethod yX7_feedLine, Cond.selects RX7 yX7_feedLine yX7_feedLine, Cond.code yX7_feedLine cX7_feedLine 4 none, Cond.constant RX7 27 (50000), Cond.constant RX7 55 (40000), Cond.constant RX7 56 (70000), Cond.methodLink RX7 61 yX7_limited, Cond.static yX7_limited, Cond.code yX7_limited cX7_limited 3 (some .int), Cond.methodLink RX7 79 yX7_follow, Cond.instanceMethod yX7_follow, Cond.selects RX7 yX7_follow yX7_follow, Cond.code yX7_follow cX7_follow 3 none, Cond.methodLink RX7 82 yX7_run, Cond.instanceMethod yX7_run, Cond.selects RX7 yX7_run yX7_run, Cond.code yX7_run cX7_run 3 none, Cond.methodLink RX7 69 yX7_trip, Cond.instanceMethod yX7_trip, Cond.selects RX7 yX7_trip yX7_trip, Cond.code yX7_trip cX7_trip 2 none, Cond.methodLink RX7 57 yX7_note]
def wsX7_relockTime_r3 : List Cond := [Cond.instanceMethod yX7_note, Cond.selects RX7 yX7_note yX7_note, Cond.code yX7_note cX7_note 2 none, Cond.methodLink RX7 72 yX7_isViolated, Cond.instanceMethod yX7_isViolated, Cond.selects RX7 yX7_isViolated yX7_isViolated, Cond.code yX7_isViolated cX7_isViolated 4 (some .boolean), Cond.methodLink RX7 85 yX7_await, Cond.instanceMethod yX7_await, Cond.selects RX7 yX7_await yX7_await, Cond.code yX7_await cX7_await 3 none, Cond.methodLink RX7 98 yX7_putBack, Cond.instanceMethod yX7_putBack, Cond.selects RX7 yX7_putBack yX7_putBack, Cond.code yX7_putBack cX7_putBack 2 none]
def wsX7_relockTime : List Cond := .code yX7_relockTime cX7_relockTime 5 (some .int) :: ((wsX7_relockTime_r1 ++ (wsX7_relockTime_r2 ++ wsX7_relockTime_r3)) ++ wsX70)
def wsX7_save : List Cond := .code yX7_save cX7_save 3 none :: ([.fieldLink RX7 30 "GridInverterModel" "thrown" "I", .fieldLink RX7 16 "GridInverterModel" "slots" "[I", .fieldLink RX7 7 "GridInverterModel" "at" "[I", .fieldLink RX7 19 "GridInverterModel" "slotEnergy" "[J", .fieldLink RX7 91 "GridInverterModel" "energy" "J", .fieldLink RX7 23 "GridInverterModel" "isSaved" "[Z", .methodLink RX7 35 yX7_in, .static yX7_in, .initialized RX7, .code yX7_in cX7_in 3 (some .boolean)] ++ wsX70)
def wsX7_restore : List Cond := .code yX7_restore cX7_restore 3 none :: ([.fieldLink RX7 23 "GridInverterModel" "isSaved" "[Z", .fieldLink RX7 30 "GridInverterModel" "thrown" "I", .fieldLink RX7 7 "GridInverterModel" "at" "[I", .fieldLink RX7 16 "GridInverterModel" "slots" "[I", .fieldLink RX7 19 "GridInverterModel" "slotEnergy" "[J", .fieldLink RX7 91 "GridInverterModel" "energy" "J", .methodLink RX7 35 yX7_in, .static yX7_in, .initialized RX7, .code yX7_in cX7_in 3 (some .boolean)] ++ wsX70)
def wsJ9_max_7cf53 : List Cond := .code yJ9_max_7cf53 cJ9_max_7cf53 2 (some .int) :: ([])
def wsJ9_min_7cf53 : List Cond := .code yJ9_min_7cf53 cJ9_min_7cf53 2 (some .int) :: ([])
def wsL_setGrid : List Cond := .codeWith yL_setGrid cL_setGrid 4 (some .int) [(0, 6, 9, 13)] :: ([.classLink RL 13 "java/lang/IllegalArgumentException", .methodLink RL 7 yX6_setGrid, .instanceMethod yX6_setGrid, .selects RX6 yX6_setGrid yX6_setGrid, .initialized RX6, .code yX6_setGrid cX6_setGrid 3 none, .classLink RX6 29 "java/lang/IllegalArgumentException", .initialized "java/lang/IllegalArgumentException", .constant RX6 27 (45000), .constant RX6 28 (65000), .fieldLink RX6 10 "GridInverter" "present" "LGridInverter$Simulation;", .fieldLink RX6 36 "GridInverter$Simulation" "line" "LGridInverter$Line;", .fieldLink RX6 40 "GridInverter$Line" "gridVoltage" "I", .fieldLink RX6 46 "GridInverter$Line" "gridFrequency" "I", .methodLink RX6 23 yX6_outside, .static yX6_outside, .code yX6_outside cX6_outside 3 (some .boolean)] ++ wsX60 ++ wsX50 ++ wsX10 ++ (vx_atS RX6 33 "java/lang/IllegalArgumentException" ["java/lang/RuntimeException", "java/lang/Exception"]).filter goodWord)
def wsL_jump_r1 : List Cond := [Cond.classLink RL 13 "java/lang/IllegalArgumentException", Cond.methodLink RL 15 yX6_jump, Cond.instanceMethod yX6_jump, Cond.selects RX6 yX6_jump yX6_jump, Cond.initialized RX6, Cond.code yX6_jump cX6_jump 2 (some .int), Cond.classLink RX6 29 "java/lang/IllegalArgumentException", Cond.initialized "java/lang/IllegalArgumentException", Cond.constant RX6 49 (-500000), Cond.constant RX6 50 (500000), Cond.fieldLink RX6 10 "GridInverter" "present" "LGridInverter$Simulation;", Cond.fieldLink RX6 36 "GridInverter$Simulation" "line" "LGridInverter$Line;", Cond.fieldLink RX6 57 "GridInverter$Line" "angle" "I", Cond.methodLink RX6 23 yX6_outside, Cond.static yX6_outside, Cond.code yX6_outside cX6_outside 3 (some .boolean), Cond.methodLink RX6 53 yX1_turn, Cond.instanceMethod yX1_turn, Cond.selects RX1 yX1_turn yX1_turn, Cond.initialized RX1, Cond.code yX1_turn cX1_turn 2 none, Cond.fieldLink RX1 19 "GridInverter$Line" "angle" "I", Cond.constant RX1 41 (1000000), Cond.methodLink RX1 42 yJ9_floorMod_7cf53]
def wsL_jump_r2 : List Cond := [Cond.static yJ9_floorMod_7cf53, Cond.initialized RJ9, Cond.code yJ9_floorMod_7cf53 cJ9_floorMod_7cf53 3 (some .int)]
def wsL_jump : List Cond := .codeWith yL_jump cL_jump 4 (some .int) [(0, 9, 12, 13)] :: ((wsL_jump_r1 ++ wsL_jump_r2) ++ wsX60 ++ wsX50 ++ wsX10 ++ (vx_atS RX6 33 "java/lang/IllegalArgumentException" ["java/lang/RuntimeException", "java/lang/Exception"]).filter goodWord)
def wsL_setLoad_r1 : List Cond := [Cond.classLink RL 13 "java/lang/IllegalArgumentException", Cond.methodLink RL 19 yX6_setLoad, Cond.instanceMethod yX6_setLoad, Cond.selects RX6 yX6_setLoad yX6_setLoad, Cond.initialized RX6, Cond.code yX6_setLoad cX6_setLoad 4 none, Cond.classLink RX6 29 "java/lang/IllegalArgumentException", Cond.initialized "java/lang/IllegalArgumentException", Cond.fieldLink RX6 10 "GridInverter" "present" "LGridInverter$Simulation;", Cond.fieldLink RX6 36 "GridInverter$Simulation" "line" "LGridInverter$Line;", Cond.methodLink RX6 64 yX6_badIsland, Cond.static yX6_badIsland, Cond.code yX6_badIsland cX6_badIsland 3 (some .boolean), Cond.constant RX6 27 (45000), Cond.constant RX6 28 (65000), Cond.methodLink RX6 23 yX6_outside, Cond.static yX6_outside, Cond.code yX6_outside cX6_outside 3 (some .boolean), Cond.methodLink RX6 69 yX1_becomeIsland, Cond.instanceMethod yX1_becomeIsland, Cond.selects RX1 yX1_becomeIsland yX1_becomeIsland, Cond.initialized RX1, Cond.code yX1_becomeIsland cX1_becomeIsland 4 none, Cond.fieldLink RX1 32 "GridInverter$Line" "load" "I"]
def wsL_setLoad_r2 : List Cond := [Cond.fieldLink RX1 35 "GridInverter$Line" "resonance" "I", Cond.fieldLink RX1 38 "GridInverter$Line" "quality" "I"]
def wsL_setLoad : List Cond := .codeWith yL_setLoad cL_setLoad 5 (some .int) [(0, 7, 10, 13)] :: ((wsL_setLoad_r1 ++ wsL_setLoad_r2) ++ wsX60 ++ wsX50 ++ wsX10 ++ (vx_atS RX6 33 "java/lang/IllegalArgumentException" ["java/lang/RuntimeException", "java/lang/Exception"]).filter goodWord)
def wsL_setLoop : List Cond := .codeWith yL_setLoop cL_setLoop 4 (some .int) [(0, 6, 9, 13)] :: ([.classLink RL 13 "java/lang/IllegalArgumentException", .methodLink RL 23 yX6_setLoop, .instanceMethod yX6_setLoop, .selects RX6 yX6_setLoop yX6_setLoop, .initialized RX6, .code yX6_setLoop cX6_setLoop 3 none, .classLink RX6 29 "java/lang/IllegalArgumentException", .initialized "java/lang/IllegalArgumentException", .fieldLink RX6 10 "GridInverter" "present" "LGridInverter$Simulation;", .fieldLink RX6 75 "GridInverter$Simulation" "loop" "LGridInverter$Loop;", .fieldLink RX6 79 "GridInverter$Loop" "kp" "I", .fieldLink RX6 84 "GridInverter$Loop" "ki" "I", .methodLink RX6 23 yX6_outside, .static yX6_outside, .code yX6_outside cX6_outside 3 (some .boolean)] ++ wsX60 ++ wsX50 ++ wsX30 ++ (vx_atS RX6 33 "java/lang/IllegalArgumentException" ["java/lang/RuntimeException", "java/lang/Exception"]).filter goodWord)
def wsL_setLock : List Cond := .codeWith yL_setLock cL_setLock 4 (some .int) [(0, 6, 9, 13)] :: ([.classLink RL 13 "java/lang/IllegalArgumentException", .methodLink RL 26 yX6_setLock, .instanceMethod yX6_setLock, .selects RX6 yX6_setLock yX6_setLock, .initialized RX6, .code yX6_setLock cX6_setLock 3 none, .classLink RX6 29 "java/lang/IllegalArgumentException", .initialized "java/lang/IllegalArgumentException", .constant RX6 87 (100000), .fieldLink RX6 10 "GridInverter" "present" "LGridInverter$Simulation;", .fieldLink RX6 75 "GridInverter$Simulation" "loop" "LGridInverter$Loop;", .fieldLink RX6 90 "GridInverter$Loop" "tolerance" "I", .fieldLink RX6 93 "GridInverter$Loop" "lockTime" "I", .methodLink RX6 23 yX6_outside, .static yX6_outside, .code yX6_outside cX6_outside 3 (some .boolean)] ++ wsX60 ++ wsX50 ++ wsX30 ++ (vx_atS RX6 33 "java/lang/IllegalArgumentException" ["java/lang/RuntimeException", "java/lang/Exception"]).filter goodWord)
def wsL_setWindow : List Cond := .codeWith yL_setWindow cL_setWindow 6 (some .int) [(0, 9, 12, 13)] :: ([.classLink RL 13 "java/lang/IllegalArgumentException", .methodLink RL 29 yX6_setWindow, .instanceMethod yX6_setWindow, .selects RX6 yX6_setWindow yX6_setWindow, .initialized RX6, .code yX6_setWindow cX6_setWindow 6 none, .classLink RX6 29 "java/lang/IllegalArgumentException", .initialized "java/lang/IllegalArgumentException", .constant RX6 96 (40000), .constant RX6 97 (70000), .fieldLink RX6 10 "GridInverter" "present" "LGridInverter$Simulation;", .fieldLink RX6 100 "GridInverter$Simulation" "inverter" "LGridInverter$Inverter;", .fieldLink RX6 104 "GridInverter$Inverter" "lowVoltage" "I", .fieldLink RX6 109 "GridInverter$Inverter" "highVoltage" "I", .fieldLink RX6 112 "GridInverter$Inverter" "lowFrequency" "I", .fieldLink RX6 115 "GridInverter$Inverter" "highFrequency" "I", .methodLink RX6 23 yX6_outside, .static yX6_outside, .code yX6_outside cX6_outside 3 (some .boolean)] ++ wsX60 ++ wsX50 ++ wsX00 ++ (vx_atS RX6 33 "java/lang/IllegalArgumentException" ["java/lang/RuntimeException", "java/lang/Exception"]).filter goodWord)
def wsL_setPower : List Cond := .codeWith yL_setPower cL_setPower 5 (some .int) [(0, 7, 10, 13)] :: ([.classLink RL 13 "java/lang/IllegalArgumentException", .methodLink RL 33 yX6_setPower, .instanceMethod yX6_setPower, .selects RX6 yX6_setPower yX6_setPower, .initialized RX6, .code yX6_setPower cX6_setPower 4 none, .classLink RX6 29 "java/lang/IllegalArgumentException", .initialized "java/lang/IllegalArgumentException", .fieldLink RX6 10 "GridInverter" "present" "LGridInverter$Simulation;", .fieldLink RX6 100 "GridInverter$Simulation" "inverter" "LGridInverter$Inverter;", .fieldLink RX6 120 "GridInverter$Inverter" "delay" "I", .fieldLink RX6 123 "GridInverter$Inverter" "ramp" "I", .fieldLink RX6 126 "GridInverter$Inverter" "rating" "I", .methodLink RX6 23 yX6_outside, .static yX6_outside, .code yX6_outside cX6_outside 3 (some .boolean)] ++ wsX60 ++ wsX50 ++ wsX00 ++ (vx_atS RX6 33 "java/lang/IllegalArgumentException" ["java/lang/RuntimeException", "java/lang/Exception"]).filter goodWord)
def wsL_setDrift : List Cond := .codeWith yL_setDrift cL_setDrift 4 (some .int) [(0, 6, 9, 13)] :: ([.classLink RL 13 "java/lang/IllegalArgumentException", .methodLink RL 36 yX6_setDrift, .instanceMethod yX6_setDrift, .selects RX6 yX6_setDrift yX6_setDrift, .initialized RX6, .code yX6_setDrift cX6_setDrift 3 none, .classLink RX6 29 "java/lang/IllegalArgumentException", .initialized "java/lang/IllegalArgumentException", .fieldLink RX6 10 "GridInverter" "present" "LGridInverter$Simulation;", .fieldLink RX6 100 "GridInverter$Simulation" "inverter" "LGridInverter$Inverter;", .fieldLink RX6 131 "GridInverter$Inverter" "shift" "I", .fieldLink RX6 134 "GridInverter$Inverter" "gain" "I", .methodLink RX6 23 yX6_outside, .static yX6_outside, .code yX6_outside cX6_outside 3 (some .boolean)] ++ wsX60 ++ wsX50 ++ wsX00 ++ (vx_atS RX6 33 "java/lang/IllegalArgumentException" ["java/lang/RuntimeException", "java/lang/Exception"]).filter goodWord)
def wsL_addRule_r1 : List Cond := [Cond.classLink RL 13 "java/lang/IllegalArgumentException", Cond.classLink RL 43 "java/lang/IllegalStateException", Cond.methodLink RL 39 yX6_addRule, Cond.instanceMethod yX6_addRule, Cond.selects RX6 yX6_addRule yX6_addRule, Cond.initialized RX6, Cond.code yX6_addRule cX6_addRule 5 (some .int), Cond.classLink RX6 29 "java/lang/IllegalArgumentException", Cond.initialized "java/lang/IllegalArgumentException", Cond.classLink RX6 149 "java/lang/IllegalStateException", Cond.initialized "java/lang/IllegalStateException", Cond.constant RX6 97 (70000), Cond.fieldLink RX6 10 "GridInverter" "present" "LGridInverter$Simulation;", Cond.fieldLink RX6 139 "GridInverter$Simulation" "rules" "LGridInverter$Rules;", Cond.methodLink RX6 23 yX6_outside, Cond.static yX6_outside, Cond.code yX6_outside cX6_outside 3 (some .boolean), Cond.methodLink RX6 143 yX4_append, Cond.instanceMethod yX4_append, Cond.selects RX4 yX4_append yX4_append, Cond.initialized RX4, Cond.code yX4_append cX4_append 5 (some .int), Cond.fieldLink RX4 9 "GridInverter$Rules" "size" "I", Cond.fieldLink RX4 15 "GridInverter$Rules" "kinds" "[I"]
def wsL_addRule_r2 : List Cond := [Cond.fieldLink RX4 19 "GridInverter$Rules" "thresholds" "[I", Cond.fieldLink RX4 22 "GridInverter$Rules" "durations" "[I", Cond.fieldLink RX4 25 "GridInverter$Rules" "counts" "[I"]
def wsL_addRule : List Cond := .codeWith yL_addRule cL_addRule 6 (some .int) [(0, 12, 15, 13), (0, 12, 19, 43)] :: ((wsL_addRule_r1 ++ wsL_addRule_r2) ++ wsX60 ++ wsX50 ++ wsX40 ++ (vx_atS RX6 33 "java/lang/IllegalArgumentException" ["java/lang/RuntimeException", "java/lang/Exception"]).filter goodWord ++ (vx_atS RX6 153 "java/lang/IllegalStateException" ["java/lang/RuntimeException", "java/lang/Exception"]).filter goodWord)
def wsL_advance_r1 : List Cond := [Cond.classLink RL 13 "java/lang/IllegalArgumentException", Cond.methodLink RL 45 yX6_advance, Cond.instanceMethod yX6_advance, Cond.selects RX6 yX6_advance yX6_advance, Cond.initialized RX6, Cond.code yX6_advance cX6_advance 3 (some .int), Cond.classLink RX6 29 "java/lang/IllegalArgumentException", Cond.initialized "java/lang/IllegalArgumentException", Cond.fieldLink RX6 10 "GridInverter" "present" "LGridInverter$Simulation;", Cond.fieldLink RX6 169 "GridInverter$Simulation" "time" "I", Cond.methodLink RX6 23 yX6_outside, Cond.static yX6_outside, Cond.code yX6_outside cX6_outside 3 (some .boolean), Cond.methodLink RX6 166 yX5_tick, Cond.instanceMethod yX5_tick, Cond.selects RX5 yX5_tick yX5_tick, Cond.initialized RX5, Cond.code yX5_tick cX5_tick 3 none, Cond.fieldLink RX5 9 "GridInverter$Simulation" "time" "I", Cond.fieldLink RX5 18 "GridInverter$Simulation" "line" "LGridInverter$Line;", Cond.fieldLink RX5 32 "GridInverter$Simulation" "inverter" "LGridInverter$Inverter;", Cond.fieldLink RX5 50 "GridInverter$Inverter" "power" "I", Cond.fieldLink RX5 25 "GridInverter$Simulation" "loop" "LGridInverter$Loop;", Cond.fieldLink RX5 53 "GridInverter$Loop" "frequency" "I"]
def wsL_advance_r2 : List Cond := [Cond.fieldLink RX5 64 "GridInverter$Line" "frequency" "I", Cond.fieldLink RX5 69 "GridInverter$Line" "angle" "I", Cond.fieldLink RX5 72 "GridInverter$Line" "voltage" "I", Cond.fieldLink RX5 81 "GridInverter$Inverter" "mode" "I", Cond.methodLink RX5 56 yX0_drifted, Cond.instanceMethod yX0_drifted, Cond.selects RX0 yX0_drifted yX0_drifted, Cond.initialized RX0, Cond.code yX0_drifted cX0_drifted 2 (some .int), Cond.fieldLink RX0 44 "GridInverter$Inverter" "shift" "I", Cond.constant RX0 57 (50000), Cond.fieldLink RX0 47 "GridInverter$Inverter" "gain" "I", Cond.methodLink RX5 60 yX1_settle, Cond.instanceMethod yX1_settle, Cond.selects RX1 yX1_settle yX1_settle, Cond.initialized RX1, Cond.code yX1_settle cX1_settle 3 none, Cond.fieldLink RX1 22 "GridInverter$Line" "connected" "Z", Cond.fieldLink RX1 26 "GridInverter$Line" "gridVoltage" "I", Cond.fieldLink RX1 9 "GridInverter$Line" "voltage" "I", Cond.fieldLink RX1 29 "GridInverter$Line" "gridFrequency" "I", Cond.fieldLink RX1 16 "GridInverter$Line" "frequency" "I", Cond.methodLink RX1 48 yX1_islandVoltage, Cond.instanceMethod yX1_islandVoltage]
def wsL_advance_r3 : List Cond := [Cond.selects RX1 yX1_islandVoltage yX1_islandVoltage, Cond.code yX1_islandVoltage cX1_islandVoltage 2 (some .int), Cond.fieldLink RX1 32 "GridInverter$Line" "load" "I", Cond.methodLink RX1 55 Lib.Math.min.name, Cond.static Lib.Math.min.name, Cond.initialized "java/lang/Math", Cond.code Lib.Math.min.name Lib.Math.min.code 2 (some .int), Cond.methodLink RX1 52 yX1_islandFrequency, Cond.instanceMethod yX1_islandFrequency, Cond.selects RX1 yX1_islandFrequency yX1_islandFrequency, Cond.code yX1_islandFrequency cX1_islandFrequency 4 (some .int), Cond.fieldLink RX1 35 "GridInverter$Line" "resonance" "I", Cond.fieldLink RX1 38 "GridInverter$Line" "quality" "I", Cond.static yX6_limitedFrequency, Cond.code yX6_limitedFrequency cX6_limitedFrequency 1 (some .int), Cond.constant RX6 96 (40000), Cond.constant RX6 97 (70000), Cond.methodLink RX6 253 Lib.Math.min.name, Cond.methodLink RX6 259 Lib.Math.max.name, Cond.static Lib.Math.max.name, Cond.code Lib.Math.max.name Lib.Math.max.code 2 (some .int), Cond.methodLink RX5 65 yX1_turn, Cond.instanceMethod yX1_turn, Cond.selects RX1 yX1_turn yX1_turn]
def wsL_advance_r4 : List Cond := [Cond.code yX1_turn cX1_turn 2 none, Cond.fieldLink RX1 19 "GridInverter$Line" "angle" "I", Cond.constant RX1 41 (1000000), Cond.methodLink RX1 42 yJ9_floorMod_7cf53, Cond.static yJ9_floorMod_7cf53, Cond.initialized RJ9, Cond.code yJ9_floorMod_7cf53 cJ9_floorMod_7cf53 3 (some .int), Cond.methodLink RX5 75 yX3_follow, Cond.instanceMethod yX3_follow, Cond.selects RX3 yX3_follow yX3_follow, Cond.initialized RX3, Cond.code yX3_follow cX3_follow 4 none, Cond.fieldLink RX3 9 "GridInverter$Loop" "angle" "I", Cond.fieldLink RX3 16 "GridInverter$Loop" "frequency" "I", Cond.constant RX3 41 (500000), Cond.constant RX3 42 (1000000), Cond.fieldLink RX3 19 "GridInverter$Loop" "error" "I", Cond.fieldLink RX3 22 "GridInverter$Loop" "kp" "I", Cond.fieldLink RX3 25 "GridInverter$Loop" "ki" "I", Cond.fieldLink RX3 28 "GridInverter$Loop" "tolerance" "I", Cond.fieldLink RX3 34 "GridInverter$Loop" "lockCount" "I", Cond.methodLink RX3 43 yJ9_floorMod_7cf53, Cond.methodLink RX5 78 yX3_changeUntil, Cond.instanceMethod yX3_changeUntil]
def wsL_advance_r5 : List Cond := [Cond.selects RX3 yX3_changeUntil yX3_changeUntil, Cond.code yX3_changeUntil cX3_changeUntil 4 (some .int), Cond.fieldLink RX3 37 "GridInverter$Loop" "past" "[I", Cond.methodLink RX5 84 yX5_protect, Cond.instanceMethod yX5_protect, Cond.selects RX5 yX5_protect yX5_protect, Cond.code yX5_protect cX5_protect 3 none, Cond.fieldLink RX5 39 "GridInverter$Simulation" "rules" "LGridInverter$Rules;", Cond.methodLink RX5 93 yX3_holdsLock, Cond.instanceMethod yX3_holdsLock, Cond.selects RX3 yX3_holdsLock yX3_holdsLock, Cond.code yX3_holdsLock cX3_holdsLock 1 (some .boolean), Cond.fieldLink RX3 31 "GridInverter$Loop" "lockTime" "I", Cond.methodLink RX5 97 yX5_trip, Cond.instanceMethod yX5_trip, Cond.selects RX5 yX5_trip yX5_trip, Cond.code yX5_trip cX5_trip 2 none, Cond.fieldLink RX5 111 "GridInverter$Inverter" "readyCount" "I", Cond.fieldLink RX5 46 "GridInverter$Simulation" "log" "LGridInverter$Log;", Cond.methodLink RX5 120 yX2_append, Cond.instanceMethod yX2_append, Cond.selects RX2 yX2_append yX2_append, Cond.initialized RX2, Cond.code yX2_append cX2_append 4 none]
def wsL_advance_r6 : List Cond := [Cond.fieldLink RX2 9 "GridInverter$Log" "size" "I", Cond.fieldLink RX2 15 "GridInverter$Log" "times" "[I", Cond.fieldLink RX2 19 "GridInverter$Log" "causes" "[I", Cond.methodLink RX2 22 yJ9_floorMod_7cf53, Cond.methodLink RX5 100 yX4_countViolations, Cond.instanceMethod yX4_countViolations, Cond.selects RX4 yX4_countViolations yX4_countViolations, Cond.initialized RX4, Cond.code yX4_countViolations cX4_countViolations 7 (some .int), Cond.fieldLink RX4 9 "GridInverter$Rules" "size" "I", Cond.fieldLink RX4 15 "GridInverter$Rules" "kinds" "[I", Cond.fieldLink RX4 19 "GridInverter$Rules" "thresholds" "[I", Cond.fieldLink RX4 25 "GridInverter$Rules" "counts" "[I", Cond.fieldLink RX4 22 "GridInverter$Rules" "durations" "[I", Cond.methodLink RX4 32 yX4_isViolated, Cond.static yX4_isViolated, Cond.code yX4_isViolated cX4_isViolated 5 (some .boolean), Cond.methodLink RX5 104 yX0_raisePower, Cond.instanceMethod yX0_raisePower, Cond.selects RX0 yX0_raisePower yX0_raisePower, Cond.code yX0_raisePower cX0_raisePower 1 none, Cond.fieldLink RX0 15 "GridInverter$Inverter" "power" "I", Cond.fieldLink RX0 24 "GridInverter$Inverter" "ramp" "I", Cond.fieldLink RX0 18 "GridInverter$Inverter" "rating" "I"]
def wsL_advance_r7 : List Cond := [Cond.methodLink RX0 62 Lib.Math.min.name, Cond.methodLink RX5 87 yX5_prepare, Cond.instanceMethod yX5_prepare, Cond.selects RX5 yX5_prepare yX5_prepare, Cond.code yX5_prepare cX5_prepare 2 none, Cond.fieldLink RX5 114 "GridInverter$Inverter" "delay" "I", Cond.methodLink RX5 107 yX0_admits, Cond.instanceMethod yX0_admits, Cond.selects RX0 yX0_admits yX0_admits, Cond.code yX0_admits cX0_admits 3 (some .boolean), Cond.fieldLink RX0 30 "GridInverter$Inverter" "lowVoltage" "I", Cond.fieldLink RX0 33 "GridInverter$Inverter" "highVoltage" "I", Cond.fieldLink RX0 37 "GridInverter$Inverter" "lowFrequency" "I", Cond.fieldLink RX0 41 "GridInverter$Inverter" "highFrequency" "I", Cond.methodLink RX5 117 yX4_forgetViolations, Cond.instanceMethod yX4_forgetViolations, Cond.selects RX4 yX4_forgetViolations yX4_forgetViolations, Cond.code yX4_forgetViolations cX4_forgetViolations 2 none, Cond.methodLink RX5 90 yX0_account, Cond.instanceMethod yX0_account, Cond.selects RX0 yX0_account yX0_account, Cond.code yX0_account cX0_account 1 none, Cond.fieldLink RX0 50 "GridInverter$Inverter" "energy" "J", Cond.fieldLink RX0 9 "GridInverter$Inverter" "mode" "I"]
def wsL_advance_r8 : List Cond := [Cond.fieldLink RX0 54 "GridInverter$Inverter" "runningTicks" "I"]
def wsL_advance : List Cond := .codeWith yL_advance cL_advance 4 (some .int) [(0, 9, 12, 13)] :: ((wsL_advance_r1 ++ (wsL_advance_r2 ++ (wsL_advance_r3 ++ (wsL_advance_r4 ++ (wsL_advance_r5 ++ (wsL_advance_r6 ++ (wsL_advance_r7 ++ wsL_advance_r8))))))) ++ wsX60 ++ wsX50 ++ wsX00 ++ wsX30 ++ wsX10 ++ wsX20 ++ wsX40 ++ (vx_atS RX6 33 "java/lang/IllegalArgumentException" ["java/lang/RuntimeException", "java/lang/Exception"]).filter goodWord)
def wsL_measure : List Cond := .codeWith yL_measure cL_measure 4 (some .int) [(0, 9, 12, 13)] :: ([.classLink RL 13 "java/lang/IllegalArgumentException", .methodLink RL 48 yX6_measure, .instanceMethod yX6_measure, .selects RX6 yX6_measure yX6_measure, .initialized RX6, .code yX6_measure cX6_measure 2 (some .int), .classLink RX6 29 "java/lang/IllegalArgumentException", .initialized "java/lang/IllegalArgumentException", .fieldLink RX6 10 "GridInverter" "present" "LGridInverter$Simulation;", .fieldLink RX6 169 "GridInverter$Simulation" "time" "I", .fieldLink RX6 36 "GridInverter$Simulation" "line" "LGridInverter$Line;", .fieldLink RX6 178 "GridInverter$Line" "voltage" "I", .fieldLink RX6 181 "GridInverter$Line" "frequency" "I", .fieldLink RX6 57 "GridInverter$Line" "angle" "I", .fieldLink RX6 75 "GridInverter$Simulation" "loop" "LGridInverter$Loop;", .fieldLink RX6 184 "GridInverter$Loop" "angle" "I", .fieldLink RX6 185 "GridInverter$Loop" "frequency" "I", .fieldLink RX6 186 "GridInverter$Loop" "error" "I", .fieldLink RX6 189 "GridInverter$Loop" "lockCount" "I", .fieldLink RX6 100 "GridInverter$Simulation" "inverter" "LGridInverter$Inverter;", .fieldLink RX6 192 "GridInverter$Inverter" "readyCount" "I", .fieldLink RX6 195 "GridInverter$Inverter" "power" "I"] ++ wsX60 ++ wsX50 ++ wsX10 ++ wsX30 ++ wsX00 ++ (vx_atS RX6 33 "java/lang/IllegalArgumentException" ["java/lang/RuntimeException", "java/lang/Exception"]).filter goodWord)
def wsL_violations : List Cond := .codeWith yL_violations cL_violations 4 (some .int) [(0, 9, 12, 54)] :: ([.classLink RL 54 "java/lang/IndexOutOfBoundsException", .methodLink RL 51 yX6_violations, .instanceMethod yX6_violations, .selects RX6 yX6_violations yX6_violations, .initialized RX6, .code yX6_violations cX6_violations 3 (some .int), .classLink RX6 204 "java/lang/IndexOutOfBoundsException", .initialized "java/lang/IndexOutOfBoundsException", .fieldLink RX6 10 "GridInverter" "present" "LGridInverter$Simulation;", .fieldLink RX6 139 "GridInverter$Simulation" "rules" "LGridInverter$Rules;", .methodLink RX6 200 yX4_countOf, .instanceMethod yX4_countOf, .selects RX4 yX4_countOf yX4_countOf, .initialized RX4, .code yX4_countOf cX4_countOf 2 (some .int), .fieldLink RX4 9 "GridInverter$Rules" "size" "I", .fieldLink RX4 25 "GridInverter$Rules" "counts" "[I"] ++ wsX60 ++ wsX50 ++ wsX40 ++ (vx_atS RX6 208 "java/lang/IndexOutOfBoundsException" ["java/lang/RuntimeException", "java/lang/Exception"]).filter goodWord)
def wsL_event_r1 : List Cond := [Cond.classLink RL 13 "java/lang/IllegalArgumentException", Cond.methodLink RL 56 yX6_event, Cond.instanceMethod yX6_event, Cond.selects RX6 yX6_event yX6_event, Cond.initialized RX6, Cond.code yX6_event cX6_event 3 (some .int), Cond.classLink RX6 29 "java/lang/IllegalArgumentException", Cond.initialized "java/lang/IllegalArgumentException", Cond.fieldLink RX6 10 "GridInverter" "present" "LGridInverter$Simulation;", Cond.fieldLink RX6 216 "GridInverter$Simulation" "log" "LGridInverter$Log;", Cond.methodLink RX6 23 yX6_outside, Cond.static yX6_outside, Cond.code yX6_outside cX6_outside 3 (some .boolean), Cond.methodLink RX6 225 yX2_timeOf, Cond.instanceMethod yX2_timeOf, Cond.selects RX2 yX2_timeOf yX2_timeOf, Cond.initialized RX2, Cond.code yX2_timeOf cX2_timeOf 2 (some .int), Cond.fieldLink RX2 15 "GridInverter$Log" "times" "[I", Cond.methodLink RX2 28 yX2_isKept, Cond.instanceMethod yX2_isKept, Cond.selects RX2 yX2_isKept yX2_isKept, Cond.code yX2_isKept cX2_isKept 2 (some .boolean), Cond.fieldLink RX2 9 "GridInverter$Log" "size" "I"]
def wsL_event_r2 : List Cond := [Cond.methodLink RX2 22 yJ9_floorMod_7cf53, Cond.static yJ9_floorMod_7cf53, Cond.initialized RJ9, Cond.code yJ9_floorMod_7cf53 cJ9_floorMod_7cf53 3 (some .int), Cond.methodLink RX6 228 yX2_causeOf, Cond.instanceMethod yX2_causeOf, Cond.selects RX2 yX2_causeOf yX2_causeOf, Cond.code yX2_causeOf cX2_causeOf 2 (some .int), Cond.fieldLink RX2 19 "GridInverter$Log" "causes" "[I"]
def wsL_event : List Cond := .codeWith yL_event cL_event 5 (some .int) [(0, 10, 13, 13)] :: ((wsL_event_r1 ++ wsL_event_r2) ++ wsX60 ++ wsX50 ++ wsX20 ++ (vx_atS RX6 33 "java/lang/IllegalArgumentException" ["java/lang/RuntimeException", "java/lang/Exception"]).filter goodWord)
def wsL_islandTime_r1 : List Cond := [Cond.classLink RL 13 "java/lang/IllegalArgumentException", Cond.classLink RL 43 "java/lang/IllegalStateException", Cond.methodLink RL 60 yX6_islandTime, Cond.instanceMethod yX6_islandTime, Cond.selects RX6 yX6_islandTime yX6_islandTime, Cond.initialized RX6, Cond.code yX6_islandTime cX6_islandTime 5 (some .int), Cond.classLink RX6 29 "java/lang/IllegalArgumentException", Cond.initialized "java/lang/IllegalArgumentException", Cond.classLink RX6 149 "java/lang/IllegalStateException", Cond.initialized "java/lang/IllegalStateException", Cond.fieldLink RX6 10 "GridInverter" "present" "LGridInverter$Simulation;", Cond.fieldLink RX6 100 "GridInverter$Simulation" "inverter" "LGridInverter$Inverter;", Cond.fieldLink RX6 172 "GridInverter$Inverter" "mode" "I", Cond.methodLink RX6 64 yX6_badIsland, Cond.static yX6_badIsland, Cond.code yX6_badIsland cX6_badIsland 3 (some .boolean), Cond.constant RX6 27 (45000), Cond.constant RX6 28 (65000), Cond.methodLink RX6 23 yX6_outside, Cond.static yX6_outside, Cond.code yX6_outside cX6_outside 3 (some .boolean), Cond.methodLink RX6 235 yX6_ticksToDetect, Cond.instanceMethod yX6_ticksToDetect]
def wsL_islandTime_r2 : List Cond := [Cond.selects RX6 yX6_ticksToDetect yX6_ticksToDetect, Cond.code yX6_ticksToDetect cX6_ticksToDetect 6 (some .int), Cond.fieldLink RX6 16 "GridInverter" "trial" "LGridInverter$Simulation;", Cond.fieldLink RX6 36 "GridInverter$Simulation" "line" "LGridInverter$Line;", Cond.fieldLink RX6 60 "GridInverter$Line" "connected" "Z", Cond.methodLink RX6 245 yX5_takeFrom, Cond.instanceMethod yX5_takeFrom, Cond.selects RX5 yX5_takeFrom yX5_takeFrom, Cond.initialized RX5, Cond.code yX5_takeFrom cX5_takeFrom 2 none, Cond.fieldLink RX5 9 "GridInverter$Simulation" "time" "I", Cond.fieldLink RX5 18 "GridInverter$Simulation" "line" "LGridInverter$Line;", Cond.fieldLink RX5 25 "GridInverter$Simulation" "loop" "LGridInverter$Loop;", Cond.fieldLink RX5 32 "GridInverter$Simulation" "inverter" "LGridInverter$Inverter;", Cond.fieldLink RX5 39 "GridInverter$Simulation" "rules" "LGridInverter$Rules;", Cond.fieldLink RX5 46 "GridInverter$Simulation" "log" "LGridInverter$Log;", Cond.methodLink RX5 123 yX1_takeFrom, Cond.instanceMethod yX1_takeFrom, Cond.selects RX1 yX1_takeFrom yX1_takeFrom, Cond.initialized RX1, Cond.code yX1_takeFrom cX1_takeFrom 2 none, Cond.fieldLink RX1 9 "GridInverter$Line" "voltage" "I", Cond.fieldLink RX1 16 "GridInverter$Line" "frequency" "I", Cond.fieldLink RX1 19 "GridInverter$Line" "angle" "I"]
def wsL_islandTime_r3 : List Cond := [Cond.fieldLink RX1 22 "GridInverter$Line" "connected" "Z", Cond.fieldLink RX1 26 "GridInverter$Line" "gridVoltage" "I", Cond.fieldLink RX1 29 "GridInverter$Line" "gridFrequency" "I", Cond.fieldLink RX1 32 "GridInverter$Line" "load" "I", Cond.fieldLink RX1 35 "GridInverter$Line" "resonance" "I", Cond.fieldLink RX1 38 "GridInverter$Line" "quality" "I", Cond.methodLink RX1 61 yX1_becomeIsland, Cond.instanceMethod yX1_becomeIsland, Cond.selects RX1 yX1_becomeIsland yX1_becomeIsland, Cond.code yX1_becomeIsland cX1_becomeIsland 4 none, Cond.methodLink RX5 127 yX3_takeFrom, Cond.instanceMethod yX3_takeFrom, Cond.selects RX3 yX3_takeFrom yX3_takeFrom, Cond.initialized RX3, Cond.code yX3_takeFrom cX3_takeFrom 2 none, Cond.fieldLink RX3 9 "GridInverter$Loop" "angle" "I", Cond.fieldLink RX3 16 "GridInverter$Loop" "frequency" "I", Cond.fieldLink RX3 19 "GridInverter$Loop" "error" "I", Cond.fieldLink RX3 22 "GridInverter$Loop" "kp" "I", Cond.fieldLink RX3 25 "GridInverter$Loop" "ki" "I", Cond.fieldLink RX3 28 "GridInverter$Loop" "tolerance" "I", Cond.fieldLink RX3 31 "GridInverter$Loop" "lockTime" "I", Cond.fieldLink RX3 34 "GridInverter$Loop" "lockCount" "I", Cond.fieldLink RX3 37 "GridInverter$Loop" "past" "[I"]
def wsL_islandTime_r4 : List Cond := [Cond.static yX6_copyRow, Cond.code yX6_copyRow cX6_copyRow 2 none, Cond.methodLink RX6 253 Lib.Math.min.name, Cond.static Lib.Math.min.name, Cond.initialized "java/lang/Math", Cond.code Lib.Math.min.name Lib.Math.min.code 2 (some .int), Cond.methodLink RX6 262 arraycopyName, Cond.native arraycopyName, Cond.static arraycopyName, Cond.initialized "java/lang/System", Cond.methodLink RX5 130 yX0_takeFrom, Cond.instanceMethod yX0_takeFrom, Cond.selects RX0 yX0_takeFrom yX0_takeFrom, Cond.initialized RX0, Cond.code yX0_takeFrom cX0_takeFrom 2 none, Cond.fieldLink RX0 9 "GridInverter$Inverter" "mode" "I", Cond.fieldLink RX0 15 "GridInverter$Inverter" "power" "I", Cond.fieldLink RX0 18 "GridInverter$Inverter" "rating" "I", Cond.fieldLink RX0 21 "GridInverter$Inverter" "delay" "I", Cond.fieldLink RX0 24 "GridInverter$Inverter" "ramp" "I", Cond.fieldLink RX0 27 "GridInverter$Inverter" "readyCount" "I", Cond.fieldLink RX0 30 "GridInverter$Inverter" "lowVoltage" "I", Cond.fieldLink RX0 33 "GridInverter$Inverter" "highVoltage" "I", Cond.fieldLink RX0 37 "GridInverter$Inverter" "lowFrequency" "I"]
def wsL_islandTime_r5 : List Cond := [Cond.fieldLink RX0 41 "GridInverter$Inverter" "highFrequency" "I", Cond.fieldLink RX0 44 "GridInverter$Inverter" "shift" "I", Cond.fieldLink RX0 47 "GridInverter$Inverter" "gain" "I", Cond.fieldLink RX0 50 "GridInverter$Inverter" "energy" "J", Cond.fieldLink RX0 54 "GridInverter$Inverter" "runningTicks" "I", Cond.methodLink RX5 133 yX4_takeFrom, Cond.instanceMethod yX4_takeFrom, Cond.selects RX4 yX4_takeFrom yX4_takeFrom, Cond.initialized RX4, Cond.code yX4_takeFrom cX4_takeFrom 2 none, Cond.fieldLink RX4 9 "GridInverter$Rules" "size" "I", Cond.fieldLink RX4 15 "GridInverter$Rules" "kinds" "[I", Cond.fieldLink RX4 19 "GridInverter$Rules" "thresholds" "[I", Cond.fieldLink RX4 22 "GridInverter$Rules" "durations" "[I", Cond.fieldLink RX4 25 "GridInverter$Rules" "counts" "[I", Cond.methodLink RX5 136 yX2_takeFrom, Cond.instanceMethod yX2_takeFrom, Cond.selects RX2 yX2_takeFrom yX2_takeFrom, Cond.initialized RX2, Cond.code yX2_takeFrom cX2_takeFrom 2 none, Cond.fieldLink RX2 9 "GridInverter$Log" "size" "I", Cond.fieldLink RX2 15 "GridInverter$Log" "times" "[I", Cond.fieldLink RX2 19 "GridInverter$Log" "causes" "[I", Cond.methodLink RX6 69 yX1_becomeIsland]
def wsL_islandTime_r6 : List Cond := [Cond.methodLink RX6 166 yX5_tick, Cond.instanceMethod yX5_tick, Cond.selects RX5 yX5_tick yX5_tick, Cond.code yX5_tick cX5_tick 3 none, Cond.fieldLink RX5 50 "GridInverter$Inverter" "power" "I", Cond.fieldLink RX5 53 "GridInverter$Loop" "frequency" "I", Cond.fieldLink RX5 64 "GridInverter$Line" "frequency" "I", Cond.fieldLink RX5 69 "GridInverter$Line" "angle" "I", Cond.fieldLink RX5 72 "GridInverter$Line" "voltage" "I", Cond.fieldLink RX5 81 "GridInverter$Inverter" "mode" "I", Cond.methodLink RX5 56 yX0_drifted, Cond.instanceMethod yX0_drifted, Cond.selects RX0 yX0_drifted yX0_drifted, Cond.code yX0_drifted cX0_drifted 2 (some .int), Cond.constant RX0 57 (50000), Cond.methodLink RX5 60 yX1_settle, Cond.instanceMethod yX1_settle, Cond.selects RX1 yX1_settle yX1_settle, Cond.code yX1_settle cX1_settle 3 none, Cond.methodLink RX1 48 yX1_islandVoltage, Cond.instanceMethod yX1_islandVoltage, Cond.selects RX1 yX1_islandVoltage yX1_islandVoltage, Cond.code yX1_islandVoltage cX1_islandVoltage 2 (some .int), Cond.methodLink RX1 55 Lib.Math.min.name]
def wsL_islandTime_r7 : List Cond := [Cond.methodLink RX1 52 yX1_islandFrequency, Cond.instanceMethod yX1_islandFrequency, Cond.selects RX1 yX1_islandFrequency yX1_islandFrequency, Cond.code yX1_islandFrequency cX1_islandFrequency 4 (some .int), Cond.static yX6_limitedFrequency, Cond.code yX6_limitedFrequency cX6_limitedFrequency 1 (some .int), Cond.constant RX6 96 (40000), Cond.constant RX6 97 (70000), Cond.methodLink RX6 259 Lib.Math.max.name, Cond.static Lib.Math.max.name, Cond.code Lib.Math.max.name Lib.Math.max.code 2 (some .int), Cond.methodLink RX5 65 yX1_turn, Cond.instanceMethod yX1_turn, Cond.selects RX1 yX1_turn yX1_turn, Cond.code yX1_turn cX1_turn 2 none, Cond.constant RX1 41 (1000000), Cond.methodLink RX1 42 yJ9_floorMod_7cf53, Cond.static yJ9_floorMod_7cf53, Cond.initialized RJ9, Cond.code yJ9_floorMod_7cf53 cJ9_floorMod_7cf53 3 (some .int), Cond.methodLink RX5 75 yX3_follow, Cond.instanceMethod yX3_follow, Cond.selects RX3 yX3_follow yX3_follow, Cond.code yX3_follow cX3_follow 4 none]
def wsL_islandTime_r8 : List Cond := [Cond.constant RX3 41 (500000), Cond.constant RX3 42 (1000000), Cond.methodLink RX3 43 yJ9_floorMod_7cf53, Cond.methodLink RX5 78 yX3_changeUntil, Cond.instanceMethod yX3_changeUntil, Cond.selects RX3 yX3_changeUntil yX3_changeUntil, Cond.code yX3_changeUntil cX3_changeUntil 4 (some .int), Cond.methodLink RX5 84 yX5_protect, Cond.instanceMethod yX5_protect, Cond.selects RX5 yX5_protect yX5_protect, Cond.code yX5_protect cX5_protect 3 none, Cond.methodLink RX5 93 yX3_holdsLock, Cond.instanceMethod yX3_holdsLock, Cond.selects RX3 yX3_holdsLock yX3_holdsLock, Cond.code yX3_holdsLock cX3_holdsLock 1 (some .boolean), Cond.methodLink RX5 97 yX5_trip, Cond.instanceMethod yX5_trip, Cond.selects RX5 yX5_trip yX5_trip, Cond.code yX5_trip cX5_trip 2 none, Cond.fieldLink RX5 111 "GridInverter$Inverter" "readyCount" "I", Cond.methodLink RX5 120 yX2_append, Cond.instanceMethod yX2_append, Cond.selects RX2 yX2_append yX2_append, Cond.code yX2_append cX2_append 4 none]
def wsL_islandTime_r9 : List Cond := [Cond.methodLink RX2 22 yJ9_floorMod_7cf53, Cond.methodLink RX5 100 yX4_countViolations, Cond.instanceMethod yX4_countViolations, Cond.selects RX4 yX4_countViolations yX4_countViolations, Cond.code yX4_countViolations cX4_countViolations 7 (some .int), Cond.methodLink RX4 32 yX4_isViolated, Cond.static yX4_isViolated, Cond.code yX4_isViolated cX4_isViolated 5 (some .boolean), Cond.methodLink RX5 104 yX0_raisePower, Cond.instanceMethod yX0_raisePower, Cond.selects RX0 yX0_raisePower yX0_raisePower, Cond.code yX0_raisePower cX0_raisePower 1 none, Cond.methodLink RX0 62 Lib.Math.min.name, Cond.methodLink RX5 87 yX5_prepare, Cond.instanceMethod yX5_prepare, Cond.selects RX5 yX5_prepare yX5_prepare, Cond.code yX5_prepare cX5_prepare 2 none, Cond.fieldLink RX5 114 "GridInverter$Inverter" "delay" "I", Cond.methodLink RX5 107 yX0_admits, Cond.instanceMethod yX0_admits, Cond.selects RX0 yX0_admits yX0_admits, Cond.code yX0_admits cX0_admits 3 (some .boolean), Cond.methodLink RX5 117 yX4_forgetViolations, Cond.instanceMethod yX4_forgetViolations]
def wsL_islandTime_r10 : List Cond := [Cond.selects RX4 yX4_forgetViolations yX4_forgetViolations, Cond.code yX4_forgetViolations cX4_forgetViolations 2 none, Cond.methodLink RX5 90 yX0_account, Cond.instanceMethod yX0_account, Cond.selects RX0 yX0_account yX0_account, Cond.code yX0_account cX0_account 1 none]
def wsL_islandTime : List Cond := .codeWith yL_islandTime cL_islandTime 7 (some .int) [(0, 14, 17, 13), (0, 14, 21, 43)] :: ((wsL_islandTime_r1 ++ (wsL_islandTime_r2 ++ (wsL_islandTime_r3 ++ (wsL_islandTime_r4 ++ (wsL_islandTime_r5 ++ (wsL_islandTime_r6 ++ (wsL_islandTime_r7 ++ (wsL_islandTime_r8 ++ (wsL_islandTime_r9 ++ wsL_islandTime_r10))))))))) ++ wsX60 ++ wsX50 ++ wsX00 ++ wsX10 ++ wsX30 ++ wsX40 ++ wsX20 ++ (vx_atS RX6 33 "java/lang/IllegalArgumentException" ["java/lang/RuntimeException", "java/lang/Exception"]).filter goodWord ++ (vx_atS RX6 153 "java/lang/IllegalStateException" ["java/lang/RuntimeException", "java/lang/Exception"]).filter goodWord)
def wsL_undetected_r1 : List Cond := [Cond.classLink RL 13 "java/lang/IllegalArgumentException", Cond.classLink RL 43 "java/lang/IllegalStateException", Cond.methodLink RL 64 yX6_undetected, Cond.instanceMethod yX6_undetected, Cond.selects RX6 yX6_undetected yX6_undetected, Cond.initialized RX6, Cond.code yX6_undetected cX6_undetected 8 (some .int), Cond.classLink RX6 29 "java/lang/IllegalArgumentException", Cond.initialized "java/lang/IllegalArgumentException", Cond.classLink RX6 149 "java/lang/IllegalStateException", Cond.initialized "java/lang/IllegalStateException", Cond.fieldLink RX6 10 "GridInverter" "present" "LGridInverter$Simulation;", Cond.fieldLink RX6 100 "GridInverter$Simulation" "inverter" "LGridInverter$Inverter;", Cond.fieldLink RX6 172 "GridInverter$Inverter" "mode" "I", Cond.fieldLink RX6 36 "GridInverter$Simulation" "line" "LGridInverter$Line;", Cond.fieldLink RX6 239 "GridInverter$Line" "resonance" "I", Cond.fieldLink RX6 242 "GridInverter$Line" "quality" "I", Cond.methodLink RX6 23 yX6_outside, Cond.static yX6_outside, Cond.code yX6_outside cX6_outside 3 (some .boolean), Cond.methodLink RX6 235 yX6_ticksToDetect, Cond.instanceMethod yX6_ticksToDetect, Cond.selects RX6 yX6_ticksToDetect yX6_ticksToDetect, Cond.code yX6_ticksToDetect cX6_ticksToDetect 6 (some .int)]
def wsL_undetected_r2 : List Cond := [Cond.fieldLink RX6 16 "GridInverter" "trial" "LGridInverter$Simulation;", Cond.fieldLink RX6 60 "GridInverter$Line" "connected" "Z", Cond.methodLink RX6 245 yX5_takeFrom, Cond.instanceMethod yX5_takeFrom, Cond.selects RX5 yX5_takeFrom yX5_takeFrom, Cond.initialized RX5, Cond.code yX5_takeFrom cX5_takeFrom 2 none, Cond.fieldLink RX5 9 "GridInverter$Simulation" "time" "I", Cond.fieldLink RX5 18 "GridInverter$Simulation" "line" "LGridInverter$Line;", Cond.fieldLink RX5 25 "GridInverter$Simulation" "loop" "LGridInverter$Loop;", Cond.fieldLink RX5 32 "GridInverter$Simulation" "inverter" "LGridInverter$Inverter;", Cond.fieldLink RX5 39 "GridInverter$Simulation" "rules" "LGridInverter$Rules;", Cond.fieldLink RX5 46 "GridInverter$Simulation" "log" "LGridInverter$Log;", Cond.methodLink RX5 123 yX1_takeFrom, Cond.instanceMethod yX1_takeFrom, Cond.selects RX1 yX1_takeFrom yX1_takeFrom, Cond.initialized RX1, Cond.code yX1_takeFrom cX1_takeFrom 2 none, Cond.fieldLink RX1 9 "GridInverter$Line" "voltage" "I", Cond.fieldLink RX1 16 "GridInverter$Line" "frequency" "I", Cond.fieldLink RX1 19 "GridInverter$Line" "angle" "I", Cond.fieldLink RX1 22 "GridInverter$Line" "connected" "Z", Cond.fieldLink RX1 26 "GridInverter$Line" "gridVoltage" "I", Cond.fieldLink RX1 29 "GridInverter$Line" "gridFrequency" "I"]
def wsL_undetected_r3 : List Cond := [Cond.fieldLink RX1 32 "GridInverter$Line" "load" "I", Cond.fieldLink RX1 35 "GridInverter$Line" "resonance" "I", Cond.fieldLink RX1 38 "GridInverter$Line" "quality" "I", Cond.methodLink RX1 61 yX1_becomeIsland, Cond.instanceMethod yX1_becomeIsland, Cond.selects RX1 yX1_becomeIsland yX1_becomeIsland, Cond.code yX1_becomeIsland cX1_becomeIsland 4 none, Cond.methodLink RX5 127 yX3_takeFrom, Cond.instanceMethod yX3_takeFrom, Cond.selects RX3 yX3_takeFrom yX3_takeFrom, Cond.initialized RX3, Cond.code yX3_takeFrom cX3_takeFrom 2 none, Cond.fieldLink RX3 9 "GridInverter$Loop" "angle" "I", Cond.fieldLink RX3 16 "GridInverter$Loop" "frequency" "I", Cond.fieldLink RX3 19 "GridInverter$Loop" "error" "I", Cond.fieldLink RX3 22 "GridInverter$Loop" "kp" "I", Cond.fieldLink RX3 25 "GridInverter$Loop" "ki" "I", Cond.fieldLink RX3 28 "GridInverter$Loop" "tolerance" "I", Cond.fieldLink RX3 31 "GridInverter$Loop" "lockTime" "I", Cond.fieldLink RX3 34 "GridInverter$Loop" "lockCount" "I", Cond.fieldLink RX3 37 "GridInverter$Loop" "past" "[I", Cond.static yX6_copyRow, Cond.code yX6_copyRow cX6_copyRow 2 none, Cond.methodLink RX6 253 Lib.Math.min.name]
def wsL_undetected_r4 : List Cond := [Cond.static Lib.Math.min.name, Cond.initialized "java/lang/Math", Cond.code Lib.Math.min.name Lib.Math.min.code 2 (some .int), Cond.methodLink RX6 262 arraycopyName, Cond.native arraycopyName, Cond.static arraycopyName, Cond.initialized "java/lang/System", Cond.methodLink RX5 130 yX0_takeFrom, Cond.instanceMethod yX0_takeFrom, Cond.selects RX0 yX0_takeFrom yX0_takeFrom, Cond.initialized RX0, Cond.code yX0_takeFrom cX0_takeFrom 2 none, Cond.fieldLink RX0 9 "GridInverter$Inverter" "mode" "I", Cond.fieldLink RX0 15 "GridInverter$Inverter" "power" "I", Cond.fieldLink RX0 18 "GridInverter$Inverter" "rating" "I", Cond.fieldLink RX0 21 "GridInverter$Inverter" "delay" "I", Cond.fieldLink RX0 24 "GridInverter$Inverter" "ramp" "I", Cond.fieldLink RX0 27 "GridInverter$Inverter" "readyCount" "I", Cond.fieldLink RX0 30 "GridInverter$Inverter" "lowVoltage" "I", Cond.fieldLink RX0 33 "GridInverter$Inverter" "highVoltage" "I", Cond.fieldLink RX0 37 "GridInverter$Inverter" "lowFrequency" "I", Cond.fieldLink RX0 41 "GridInverter$Inverter" "highFrequency" "I", Cond.fieldLink RX0 44 "GridInverter$Inverter" "shift" "I", Cond.fieldLink RX0 47 "GridInverter$Inverter" "gain" "I"]
def wsL_undetected_r5 : List Cond := [Cond.fieldLink RX0 50 "GridInverter$Inverter" "energy" "J", Cond.fieldLink RX0 54 "GridInverter$Inverter" "runningTicks" "I", Cond.methodLink RX5 133 yX4_takeFrom, Cond.instanceMethod yX4_takeFrom, Cond.selects RX4 yX4_takeFrom yX4_takeFrom, Cond.initialized RX4, Cond.code yX4_takeFrom cX4_takeFrom 2 none, Cond.fieldLink RX4 9 "GridInverter$Rules" "size" "I", Cond.fieldLink RX4 15 "GridInverter$Rules" "kinds" "[I", Cond.fieldLink RX4 19 "GridInverter$Rules" "thresholds" "[I", Cond.fieldLink RX4 22 "GridInverter$Rules" "durations" "[I", Cond.fieldLink RX4 25 "GridInverter$Rules" "counts" "[I", Cond.methodLink RX5 136 yX2_takeFrom, Cond.instanceMethod yX2_takeFrom, Cond.selects RX2 yX2_takeFrom yX2_takeFrom, Cond.initialized RX2, Cond.code yX2_takeFrom cX2_takeFrom 2 none, Cond.fieldLink RX2 9 "GridInverter$Log" "size" "I", Cond.fieldLink RX2 15 "GridInverter$Log" "times" "[I", Cond.fieldLink RX2 19 "GridInverter$Log" "causes" "[I", Cond.methodLink RX6 69 yX1_becomeIsland, Cond.methodLink RX6 166 yX5_tick, Cond.instanceMethod yX5_tick, Cond.selects RX5 yX5_tick yX5_tick]
def wsL_undetected_r6 : List Cond := [Cond.code yX5_tick cX5_tick 3 none, Cond.fieldLink RX5 50 "GridInverter$Inverter" "power" "I", Cond.fieldLink RX5 53 "GridInverter$Loop" "frequency" "I", Cond.fieldLink RX5 64 "GridInverter$Line" "frequency" "I", Cond.fieldLink RX5 69 "GridInverter$Line" "angle" "I", Cond.fieldLink RX5 72 "GridInverter$Line" "voltage" "I", Cond.fieldLink RX5 81 "GridInverter$Inverter" "mode" "I", Cond.methodLink RX5 56 yX0_drifted, Cond.instanceMethod yX0_drifted, Cond.selects RX0 yX0_drifted yX0_drifted, Cond.code yX0_drifted cX0_drifted 2 (some .int), Cond.constant RX0 57 (50000), Cond.methodLink RX5 60 yX1_settle, Cond.instanceMethod yX1_settle, Cond.selects RX1 yX1_settle yX1_settle, Cond.code yX1_settle cX1_settle 3 none, Cond.methodLink RX1 48 yX1_islandVoltage, Cond.instanceMethod yX1_islandVoltage, Cond.selects RX1 yX1_islandVoltage yX1_islandVoltage, Cond.code yX1_islandVoltage cX1_islandVoltage 2 (some .int), Cond.methodLink RX1 55 Lib.Math.min.name, Cond.methodLink RX1 52 yX1_islandFrequency, Cond.instanceMethod yX1_islandFrequency, Cond.selects RX1 yX1_islandFrequency yX1_islandFrequency]
def wsL_undetected_r7 : List Cond := [Cond.code yX1_islandFrequency cX1_islandFrequency 4 (some .int), Cond.static yX6_limitedFrequency, Cond.code yX6_limitedFrequency cX6_limitedFrequency 1 (some .int), Cond.constant RX6 96 (40000), Cond.constant RX6 97 (70000), Cond.methodLink RX6 259 Lib.Math.max.name, Cond.static Lib.Math.max.name, Cond.code Lib.Math.max.name Lib.Math.max.code 2 (some .int), Cond.methodLink RX5 65 yX1_turn, Cond.instanceMethod yX1_turn, Cond.selects RX1 yX1_turn yX1_turn, Cond.code yX1_turn cX1_turn 2 none, Cond.constant RX1 41 (1000000), Cond.methodLink RX1 42 yJ9_floorMod_7cf53, Cond.static yJ9_floorMod_7cf53, Cond.initialized RJ9, Cond.code yJ9_floorMod_7cf53 cJ9_floorMod_7cf53 3 (some .int), Cond.methodLink RX5 75 yX3_follow, Cond.instanceMethod yX3_follow, Cond.selects RX3 yX3_follow yX3_follow, Cond.code yX3_follow cX3_follow 4 none, Cond.constant RX3 41 (500000), Cond.constant RX3 42 (1000000), Cond.methodLink RX3 43 yJ9_floorMod_7cf53]
def wsL_undetected_r8 : List Cond := [Cond.methodLink RX5 78 yX3_changeUntil, Cond.instanceMethod yX3_changeUntil, Cond.selects RX3 yX3_changeUntil yX3_changeUntil, Cond.code yX3_changeUntil cX3_changeUntil 4 (some .int), Cond.methodLink RX5 84 yX5_protect, Cond.instanceMethod yX5_protect, Cond.selects RX5 yX5_protect yX5_protect, Cond.code yX5_protect cX5_protect 3 none, Cond.methodLink RX5 93 yX3_holdsLock, Cond.instanceMethod yX3_holdsLock, Cond.selects RX3 yX3_holdsLock yX3_holdsLock, Cond.code yX3_holdsLock cX3_holdsLock 1 (some .boolean), Cond.methodLink RX5 97 yX5_trip, Cond.instanceMethod yX5_trip, Cond.selects RX5 yX5_trip yX5_trip, Cond.code yX5_trip cX5_trip 2 none, Cond.fieldLink RX5 111 "GridInverter$Inverter" "readyCount" "I", Cond.methodLink RX5 120 yX2_append, Cond.instanceMethod yX2_append, Cond.selects RX2 yX2_append yX2_append, Cond.code yX2_append cX2_append 4 none, Cond.methodLink RX2 22 yJ9_floorMod_7cf53, Cond.methodLink RX5 100 yX4_countViolations, Cond.instanceMethod yX4_countViolations]
def wsL_undetected_r9 : List Cond := [Cond.selects RX4 yX4_countViolations yX4_countViolations, Cond.code yX4_countViolations cX4_countViolations 7 (some .int), Cond.methodLink RX4 32 yX4_isViolated, Cond.static yX4_isViolated, Cond.code yX4_isViolated cX4_isViolated 5 (some .boolean), Cond.methodLink RX5 104 yX0_raisePower, Cond.instanceMethod yX0_raisePower, Cond.selects RX0 yX0_raisePower yX0_raisePower, Cond.code yX0_raisePower cX0_raisePower 1 none, Cond.methodLink RX0 62 Lib.Math.min.name, Cond.methodLink RX5 87 yX5_prepare, Cond.instanceMethod yX5_prepare, Cond.selects RX5 yX5_prepare yX5_prepare, Cond.code yX5_prepare cX5_prepare 2 none, Cond.fieldLink RX5 114 "GridInverter$Inverter" "delay" "I", Cond.methodLink RX5 107 yX0_admits, Cond.instanceMethod yX0_admits, Cond.selects RX0 yX0_admits yX0_admits, Cond.code yX0_admits cX0_admits 3 (some .boolean), Cond.methodLink RX5 117 yX4_forgetViolations, Cond.instanceMethod yX4_forgetViolations, Cond.selects RX4 yX4_forgetViolations yX4_forgetViolations, Cond.code yX4_forgetViolations cX4_forgetViolations 2 none, Cond.methodLink RX5 90 yX0_account]
def wsL_undetected_r10 : List Cond := [Cond.instanceMethod yX0_account, Cond.selects RX0 yX0_account yX0_account, Cond.code yX0_account cX0_account 1 none]
def wsL_undetected : List Cond := .codeWith yL_undetected cL_undetected 7 (some .int) [(0, 14, 17, 13), (0, 14, 21, 43)] :: ((wsL_undetected_r1 ++ (wsL_undetected_r2 ++ (wsL_undetected_r3 ++ (wsL_undetected_r4 ++ (wsL_undetected_r5 ++ (wsL_undetected_r6 ++ (wsL_undetected_r7 ++ (wsL_undetected_r8 ++ (wsL_undetected_r9 ++ wsL_undetected_r10))))))))) ++ wsX60 ++ wsX50 ++ wsX00 ++ wsX10 ++ wsX30 ++ wsX40 ++ wsX20 ++ (vx_atS RX6 33 "java/lang/IllegalArgumentException" ["java/lang/RuntimeException", "java/lang/Exception"]).filter goodWord ++ (vx_atS RX6 153 "java/lang/IllegalStateException" ["java/lang/RuntimeException", "java/lang/Exception"]).filter goodWord)
def wsL_relockTime_r1 : List Cond := [Cond.classLink RL 13 "java/lang/IllegalArgumentException", Cond.methodLink RL 67 yX6_relockTime, Cond.instanceMethod yX6_relockTime, Cond.selects RX6 yX6_relockTime yX6_relockTime, Cond.initialized RX6, Cond.code yX6_relockTime cX6_relockTime 4 (some .int), Cond.classLink RX6 29 "java/lang/IllegalArgumentException", Cond.initialized "java/lang/IllegalArgumentException", Cond.constant RX6 49 (-500000), Cond.constant RX6 50 (500000), Cond.fieldLink RX6 16 "GridInverter" "trial" "LGridInverter$Simulation;", Cond.fieldLink RX6 10 "GridInverter" "present" "LGridInverter$Simulation;", Cond.fieldLink RX6 36 "GridInverter$Simulation" "line" "LGridInverter$Line;", Cond.fieldLink RX6 75 "GridInverter$Simulation" "loop" "LGridInverter$Loop;", Cond.fieldLink RX6 189 "GridInverter$Loop" "lockCount" "I", Cond.methodLink RX6 23 yX6_outside, Cond.static yX6_outside, Cond.code yX6_outside cX6_outside 3 (some .boolean), Cond.methodLink RX6 245 yX5_takeFrom, Cond.instanceMethod yX5_takeFrom, Cond.selects RX5 yX5_takeFrom yX5_takeFrom, Cond.initialized RX5, Cond.code yX5_takeFrom cX5_takeFrom 2 none, Cond.fieldLink RX5 9 "GridInverter$Simulation" "time" "I"]
def wsL_relockTime_r2 : List Cond := [Cond.fieldLink RX5 18 "GridInverter$Simulation" "line" "LGridInverter$Line;", Cond.fieldLink RX5 25 "GridInverter$Simulation" "loop" "LGridInverter$Loop;", Cond.fieldLink RX5 32 "GridInverter$Simulation" "inverter" "LGridInverter$Inverter;", Cond.fieldLink RX5 39 "GridInverter$Simulation" "rules" "LGridInverter$Rules;", Cond.fieldLink RX5 46 "GridInverter$Simulation" "log" "LGridInverter$Log;", Cond.methodLink RX5 123 yX1_takeFrom, Cond.instanceMethod yX1_takeFrom, Cond.selects RX1 yX1_takeFrom yX1_takeFrom, Cond.initialized RX1, Cond.code yX1_takeFrom cX1_takeFrom 2 none, Cond.fieldLink RX1 9 "GridInverter$Line" "voltage" "I", Cond.fieldLink RX1 16 "GridInverter$Line" "frequency" "I", Cond.fieldLink RX1 19 "GridInverter$Line" "angle" "I", Cond.fieldLink RX1 22 "GridInverter$Line" "connected" "Z", Cond.fieldLink RX1 26 "GridInverter$Line" "gridVoltage" "I", Cond.fieldLink RX1 29 "GridInverter$Line" "gridFrequency" "I", Cond.fieldLink RX1 32 "GridInverter$Line" "load" "I", Cond.fieldLink RX1 35 "GridInverter$Line" "resonance" "I", Cond.fieldLink RX1 38 "GridInverter$Line" "quality" "I", Cond.methodLink RX1 61 yX1_becomeIsland, Cond.instanceMethod yX1_becomeIsland, Cond.selects RX1 yX1_becomeIsland yX1_becomeIsland, Cond.code yX1_becomeIsland cX1_becomeIsland 4 none, Cond.methodLink RX5 127 yX3_takeFrom]
def wsL_relockTime_r3 : List Cond := [Cond.instanceMethod yX3_takeFrom, Cond.selects RX3 yX3_takeFrom yX3_takeFrom, Cond.initialized RX3, Cond.code yX3_takeFrom cX3_takeFrom 2 none, Cond.fieldLink RX3 9 "GridInverter$Loop" "angle" "I", Cond.fieldLink RX3 16 "GridInverter$Loop" "frequency" "I", Cond.fieldLink RX3 19 "GridInverter$Loop" "error" "I", Cond.fieldLink RX3 22 "GridInverter$Loop" "kp" "I", Cond.fieldLink RX3 25 "GridInverter$Loop" "ki" "I", Cond.fieldLink RX3 28 "GridInverter$Loop" "tolerance" "I", Cond.fieldLink RX3 31 "GridInverter$Loop" "lockTime" "I", Cond.fieldLink RX3 34 "GridInverter$Loop" "lockCount" "I", Cond.fieldLink RX3 37 "GridInverter$Loop" "past" "[I", Cond.static yX6_copyRow, Cond.code yX6_copyRow cX6_copyRow 2 none, Cond.methodLink RX6 253 Lib.Math.min.name, Cond.static Lib.Math.min.name, Cond.initialized "java/lang/Math", Cond.code Lib.Math.min.name Lib.Math.min.code 2 (some .int), Cond.methodLink RX6 262 arraycopyName, Cond.native arraycopyName, Cond.static arraycopyName, Cond.initialized "java/lang/System", Cond.methodLink RX5 130 yX0_takeFrom]
def wsL_relockTime_r4 : List Cond := [Cond.instanceMethod yX0_takeFrom, Cond.selects RX0 yX0_takeFrom yX0_takeFrom, Cond.initialized RX0, Cond.code yX0_takeFrom cX0_takeFrom 2 none, Cond.fieldLink RX0 9 "GridInverter$Inverter" "mode" "I", Cond.fieldLink RX0 15 "GridInverter$Inverter" "power" "I", Cond.fieldLink RX0 18 "GridInverter$Inverter" "rating" "I", Cond.fieldLink RX0 21 "GridInverter$Inverter" "delay" "I", Cond.fieldLink RX0 24 "GridInverter$Inverter" "ramp" "I", Cond.fieldLink RX0 27 "GridInverter$Inverter" "readyCount" "I", Cond.fieldLink RX0 30 "GridInverter$Inverter" "lowVoltage" "I", Cond.fieldLink RX0 33 "GridInverter$Inverter" "highVoltage" "I", Cond.fieldLink RX0 37 "GridInverter$Inverter" "lowFrequency" "I", Cond.fieldLink RX0 41 "GridInverter$Inverter" "highFrequency" "I", Cond.fieldLink RX0 44 "GridInverter$Inverter" "shift" "I", Cond.fieldLink RX0 47 "GridInverter$Inverter" "gain" "I", Cond.fieldLink RX0 50 "GridInverter$Inverter" "energy" "J", Cond.fieldLink RX0 54 "GridInverter$Inverter" "runningTicks" "I", Cond.methodLink RX5 133 yX4_takeFrom, Cond.instanceMethod yX4_takeFrom, Cond.selects RX4 yX4_takeFrom yX4_takeFrom, Cond.initialized RX4, Cond.code yX4_takeFrom cX4_takeFrom 2 none, Cond.fieldLink RX4 9 "GridInverter$Rules" "size" "I"]
def wsL_relockTime_r5 : List Cond := [Cond.fieldLink RX4 15 "GridInverter$Rules" "kinds" "[I", Cond.fieldLink RX4 19 "GridInverter$Rules" "thresholds" "[I", Cond.fieldLink RX4 22 "GridInverter$Rules" "durations" "[I", Cond.fieldLink RX4 25 "GridInverter$Rules" "counts" "[I", Cond.methodLink RX5 136 yX2_takeFrom, Cond.instanceMethod yX2_takeFrom, Cond.selects RX2 yX2_takeFrom yX2_takeFrom, Cond.initialized RX2, Cond.code yX2_takeFrom cX2_takeFrom 2 none, Cond.fieldLink RX2 9 "GridInverter$Log" "size" "I", Cond.fieldLink RX2 15 "GridInverter$Log" "times" "[I", Cond.fieldLink RX2 19 "GridInverter$Log" "causes" "[I", Cond.methodLink RX6 53 yX1_turn, Cond.instanceMethod yX1_turn, Cond.selects RX1 yX1_turn yX1_turn, Cond.code yX1_turn cX1_turn 2 none, Cond.constant RX1 41 (1000000), Cond.methodLink RX1 42 yJ9_floorMod_7cf53, Cond.static yJ9_floorMod_7cf53, Cond.initialized RJ9, Cond.code yJ9_floorMod_7cf53 cJ9_floorMod_7cf53 3 (some .int), Cond.methodLink RX6 166 yX5_tick, Cond.instanceMethod yX5_tick, Cond.selects RX5 yX5_tick yX5_tick]
def wsL_relockTime_r6 : List Cond := [Cond.code yX5_tick cX5_tick 3 none, Cond.fieldLink RX5 50 "GridInverter$Inverter" "power" "I", Cond.fieldLink RX5 53 "GridInverter$Loop" "frequency" "I", Cond.fieldLink RX5 64 "GridInverter$Line" "frequency" "I", Cond.fieldLink RX5 69 "GridInverter$Line" "angle" "I", Cond.fieldLink RX5 72 "GridInverter$Line" "voltage" "I", Cond.fieldLink RX5 81 "GridInverter$Inverter" "mode" "I", Cond.methodLink RX5 56 yX0_drifted, Cond.instanceMethod yX0_drifted, Cond.selects RX0 yX0_drifted yX0_drifted, Cond.code yX0_drifted cX0_drifted 2 (some .int), Cond.constant RX0 57 (50000), Cond.methodLink RX5 60 yX1_settle, Cond.instanceMethod yX1_settle, Cond.selects RX1 yX1_settle yX1_settle, Cond.code yX1_settle cX1_settle 3 none, Cond.methodLink RX1 48 yX1_islandVoltage, Cond.instanceMethod yX1_islandVoltage, Cond.selects RX1 yX1_islandVoltage yX1_islandVoltage, Cond.code yX1_islandVoltage cX1_islandVoltage 2 (some .int), Cond.methodLink RX1 55 Lib.Math.min.name, Cond.methodLink RX1 52 yX1_islandFrequency, Cond.instanceMethod yX1_islandFrequency, Cond.selects RX1 yX1_islandFrequency yX1_islandFrequency]
def wsL_relockTime_r7 : List Cond := [Cond.code yX1_islandFrequency cX1_islandFrequency 4 (some .int), Cond.static yX6_limitedFrequency, Cond.code yX6_limitedFrequency cX6_limitedFrequency 1 (some .int), Cond.constant RX6 96 (40000), Cond.constant RX6 97 (70000), Cond.methodLink RX6 259 Lib.Math.max.name, Cond.static Lib.Math.max.name, Cond.code Lib.Math.max.name Lib.Math.max.code 2 (some .int), Cond.methodLink RX5 65 yX1_turn, Cond.methodLink RX5 75 yX3_follow, Cond.instanceMethod yX3_follow, Cond.selects RX3 yX3_follow yX3_follow, Cond.code yX3_follow cX3_follow 4 none, Cond.constant RX3 41 (500000), Cond.constant RX3 42 (1000000), Cond.methodLink RX3 43 yJ9_floorMod_7cf53, Cond.methodLink RX5 78 yX3_changeUntil, Cond.instanceMethod yX3_changeUntil, Cond.selects RX3 yX3_changeUntil yX3_changeUntil, Cond.code yX3_changeUntil cX3_changeUntil 4 (some .int), Cond.methodLink RX5 84 yX5_protect, Cond.instanceMethod yX5_protect, Cond.selects RX5 yX5_protect yX5_protect, Cond.code yX5_protect cX5_protect 3 none]
def wsL_relockTime_r8 : List Cond := [Cond.methodLink RX5 93 yX3_holdsLock, Cond.instanceMethod yX3_holdsLock, Cond.selects RX3 yX3_holdsLock yX3_holdsLock, Cond.code yX3_holdsLock cX3_holdsLock 1 (some .boolean), Cond.methodLink RX5 97 yX5_trip, Cond.instanceMethod yX5_trip, Cond.selects RX5 yX5_trip yX5_trip, Cond.code yX5_trip cX5_trip 2 none, Cond.fieldLink RX5 111 "GridInverter$Inverter" "readyCount" "I", Cond.methodLink RX5 120 yX2_append, Cond.instanceMethod yX2_append, Cond.selects RX2 yX2_append yX2_append, Cond.code yX2_append cX2_append 4 none, Cond.methodLink RX2 22 yJ9_floorMod_7cf53, Cond.methodLink RX5 100 yX4_countViolations, Cond.instanceMethod yX4_countViolations, Cond.selects RX4 yX4_countViolations yX4_countViolations, Cond.code yX4_countViolations cX4_countViolations 7 (some .int), Cond.methodLink RX4 32 yX4_isViolated, Cond.static yX4_isViolated, Cond.code yX4_isViolated cX4_isViolated 5 (some .boolean), Cond.methodLink RX5 104 yX0_raisePower, Cond.instanceMethod yX0_raisePower, Cond.selects RX0 yX0_raisePower yX0_raisePower]
def wsL_relockTime_r9 : List Cond := [Cond.code yX0_raisePower cX0_raisePower 1 none, Cond.methodLink RX0 62 Lib.Math.min.name, Cond.methodLink RX5 87 yX5_prepare, Cond.instanceMethod yX5_prepare, Cond.selects RX5 yX5_prepare yX5_prepare, Cond.code yX5_prepare cX5_prepare 2 none, Cond.fieldLink RX5 114 "GridInverter$Inverter" "delay" "I", Cond.methodLink RX5 107 yX0_admits, Cond.instanceMethod yX0_admits, Cond.selects RX0 yX0_admits yX0_admits, Cond.code yX0_admits cX0_admits 3 (some .boolean), Cond.methodLink RX5 117 yX4_forgetViolations, Cond.instanceMethod yX4_forgetViolations, Cond.selects RX4 yX4_forgetViolations yX4_forgetViolations, Cond.code yX4_forgetViolations cX4_forgetViolations 2 none, Cond.methodLink RX5 90 yX0_account, Cond.instanceMethod yX0_account, Cond.selects RX0 yX0_account yX0_account, Cond.code yX0_account cX0_account 1 none, Cond.methodLink RX6 175 yX3_holdsLock]
def wsL_relockTime : List Cond := .codeWith yL_relockTime cL_relockTime 5 (some .int) [(0, 10, 13, 13)] :: ((wsL_relockTime_r1 ++ (wsL_relockTime_r2 ++ (wsL_relockTime_r3 ++ (wsL_relockTime_r4 ++ (wsL_relockTime_r5 ++ (wsL_relockTime_r6 ++ (wsL_relockTime_r7 ++ (wsL_relockTime_r8 ++ wsL_relockTime_r9)))))))) ++ wsX60 ++ wsX50 ++ wsX30 ++ wsX10 ++ wsX00 ++ wsX40 ++ wsX20 ++ (vx_atS RX6 33 "java/lang/IllegalArgumentException" ["java/lang/RuntimeException", "java/lang/Exception"]).filter goodWord)
def wsL_save_r1 : List Cond := [Cond.classLink RL 13 "java/lang/IllegalArgumentException", Cond.methodLink RL 70 yX6_save, Cond.instanceMethod yX6_save, Cond.selects RX6 yX6_save yX6_save, Cond.initialized RX6, Cond.code yX6_save cX6_save 3 none, Cond.classLink RX6 29 "java/lang/IllegalArgumentException", Cond.initialized "java/lang/IllegalArgumentException", Cond.fieldLink RX6 19 "GridInverter" "slots" "[LGridInverter$Simulation;", Cond.classLink RX6 7 RX5, Cond.instantiable RX5 6, Cond.initialized RX5, Cond.fieldLink RX6 10 "GridInverter" "present" "LGridInverter$Simulation;", Cond.methodLink RX6 23 yX6_outside, Cond.static yX6_outside, Cond.code yX6_outside cX6_outside 3 (some .boolean), Cond.instanceMethod yX5_init, Cond.code yX5_init cX5_init 1 none, Cond.methodLink RX5 3 objectInit, Cond.instanceMethod objectInit, Cond.code objectInit ⟨#[0xb1]⟩ 1 none, Cond.fieldLink RX5 9 "GridInverter$Simulation" "time" "I", Cond.classLink RX5 15 RX1, Cond.instantiable RX1 9]
def wsL_save_r2 : List Cond := [Cond.initialized RX1, Cond.fieldLink RX5 18 "GridInverter$Simulation" "line" "LGridInverter$Line;", Cond.classLink RX5 22 RX3, Cond.instantiable RX3 9, Cond.initialized RX3, Cond.fieldLink RX5 25 "GridInverter$Simulation" "loop" "LGridInverter$Loop;", Cond.classLink RX5 29 RX0, Cond.instantiable RX0 14, Cond.initialized RX0, Cond.fieldLink RX5 32 "GridInverter$Simulation" "inverter" "LGridInverter$Inverter;", Cond.classLink RX5 36 RX4, Cond.instantiable RX4 5, Cond.initialized RX4, Cond.fieldLink RX5 39 "GridInverter$Simulation" "rules" "LGridInverter$Rules;", Cond.classLink RX5 43 RX2, Cond.instantiable RX2 3, Cond.initialized RX2, Cond.fieldLink RX5 46 "GridInverter$Simulation" "log" "LGridInverter$Log;", Cond.instanceMethod yX1_init, Cond.code yX1_init cX1_init 1 none, Cond.methodLink RX1 3 objectInit, Cond.fieldLink RX1 9 "GridInverter$Line" "voltage" "I", Cond.constant RX1 15 (50000), Cond.fieldLink RX1 16 "GridInverter$Line" "frequency" "I"]
def wsL_save_r3 : List Cond := [Cond.fieldLink RX1 19 "GridInverter$Line" "angle" "I", Cond.fieldLink RX1 22 "GridInverter$Line" "connected" "Z", Cond.fieldLink RX1 26 "GridInverter$Line" "gridVoltage" "I", Cond.fieldLink RX1 29 "GridInverter$Line" "gridFrequency" "I", Cond.fieldLink RX1 32 "GridInverter$Line" "load" "I", Cond.fieldLink RX1 35 "GridInverter$Line" "resonance" "I", Cond.fieldLink RX1 38 "GridInverter$Line" "quality" "I", Cond.methodLink RX5 24 yX3_init, Cond.instanceMethod yX3_init, Cond.code yX3_init cX3_init 2 none, Cond.methodLink RX3 3 objectInit, Cond.fieldLink RX3 9 "GridInverter$Loop" "angle" "I", Cond.constant RX3 15 (50000), Cond.fieldLink RX3 16 "GridInverter$Loop" "frequency" "I", Cond.fieldLink RX3 19 "GridInverter$Loop" "error" "I", Cond.fieldLink RX3 22 "GridInverter$Loop" "kp" "I", Cond.fieldLink RX3 25 "GridInverter$Loop" "ki" "I", Cond.fieldLink RX3 28 "GridInverter$Loop" "tolerance" "I", Cond.fieldLink RX3 31 "GridInverter$Loop" "lockTime" "I", Cond.fieldLink RX3 34 "GridInverter$Loop" "lockCount" "I", Cond.arrayClass .int, Cond.fieldLink RX3 37 "GridInverter$Loop" "past" "[I", Cond.instanceMethod yX0_init, Cond.code yX0_init cX0_init 1 none]
def wsL_save_r4 : List Cond := [Cond.methodLink RX0 3 objectInit, Cond.fieldLink RX0 9 "GridInverter$Inverter" "mode" "I", Cond.fieldLink RX0 15 "GridInverter$Inverter" "power" "I", Cond.fieldLink RX0 18 "GridInverter$Inverter" "rating" "I", Cond.fieldLink RX0 21 "GridInverter$Inverter" "delay" "I", Cond.fieldLink RX0 24 "GridInverter$Inverter" "ramp" "I", Cond.fieldLink RX0 27 "GridInverter$Inverter" "readyCount" "I", Cond.fieldLink RX0 30 "GridInverter$Inverter" "lowVoltage" "I", Cond.fieldLink RX0 33 "GridInverter$Inverter" "highVoltage" "I", Cond.constant RX0 36 (49000), Cond.fieldLink RX0 37 "GridInverter$Inverter" "lowFrequency" "I", Cond.constant RX0 40 (51000), Cond.fieldLink RX0 41 "GridInverter$Inverter" "highFrequency" "I", Cond.fieldLink RX0 44 "GridInverter$Inverter" "shift" "I", Cond.fieldLink RX0 47 "GridInverter$Inverter" "gain" "I", Cond.fieldLink RX0 50 "GridInverter$Inverter" "energy" "J", Cond.fieldLink RX0 54 "GridInverter$Inverter" "runningTicks" "I", Cond.instanceMethod yX4_init, Cond.code yX4_init cX4_init 1 none, Cond.methodLink RX4 3 objectInit, Cond.fieldLink RX4 9 "GridInverter$Rules" "size" "I", Cond.fieldLink RX4 15 "GridInverter$Rules" "kinds" "[I", Cond.fieldLink RX4 19 "GridInverter$Rules" "thresholds" "[I", Cond.fieldLink RX4 22 "GridInverter$Rules" "durations" "[I"]
def wsL_save_r5 : List Cond := [Cond.fieldLink RX4 25 "GridInverter$Rules" "counts" "[I", Cond.instanceMethod yX2_init, Cond.code yX2_init cX2_init 1 none, Cond.methodLink RX2 3 objectInit, Cond.fieldLink RX2 9 "GridInverter$Log" "size" "I", Cond.fieldLink RX2 15 "GridInverter$Log" "times" "[I", Cond.fieldLink RX2 19 "GridInverter$Log" "causes" "[I", Cond.methodLink RX6 245 yX5_takeFrom, Cond.instanceMethod yX5_takeFrom, Cond.selects RX5 yX5_takeFrom yX5_takeFrom, Cond.code yX5_takeFrom cX5_takeFrom 2 none, Cond.methodLink RX5 123 yX1_takeFrom, Cond.instanceMethod yX1_takeFrom, Cond.selects RX1 yX1_takeFrom yX1_takeFrom, Cond.code yX1_takeFrom cX1_takeFrom 2 none, Cond.methodLink RX1 61 yX1_becomeIsland, Cond.instanceMethod yX1_becomeIsland, Cond.selects RX1 yX1_becomeIsland yX1_becomeIsland, Cond.code yX1_becomeIsland cX1_becomeIsland 4 none, Cond.methodLink RX5 127 yX3_takeFrom, Cond.instanceMethod yX3_takeFrom, Cond.selects RX3 yX3_takeFrom yX3_takeFrom, Cond.code yX3_takeFrom cX3_takeFrom 2 none, Cond.static yX6_copyRow]
def wsL_save_r6 : List Cond := [Cond.code yX6_copyRow cX6_copyRow 2 none, Cond.methodLink RX6 253 Lib.Math.min.name, Cond.static Lib.Math.min.name, Cond.initialized "java/lang/Math", Cond.code Lib.Math.min.name Lib.Math.min.code 2 (some .int), Cond.methodLink RX6 262 arraycopyName, Cond.native arraycopyName, Cond.static arraycopyName, Cond.initialized "java/lang/System", Cond.methodLink RX5 130 yX0_takeFrom, Cond.instanceMethod yX0_takeFrom, Cond.selects RX0 yX0_takeFrom yX0_takeFrom, Cond.code yX0_takeFrom cX0_takeFrom 2 none, Cond.methodLink RX5 133 yX4_takeFrom, Cond.instanceMethod yX4_takeFrom, Cond.selects RX4 yX4_takeFrom yX4_takeFrom, Cond.code yX4_takeFrom cX4_takeFrom 2 none, Cond.methodLink RX5 136 yX2_takeFrom, Cond.instanceMethod yX2_takeFrom, Cond.selects RX2 yX2_takeFrom yX2_takeFrom, Cond.code yX2_takeFrom cX2_takeFrom 2 none]
def wsL_save : List Cond := .codeWith yL_save cL_save 3 (some .int) [(0, 5, 8, 13)] :: ((wsL_save_r1 ++ (wsL_save_r2 ++ (wsL_save_r3 ++ (wsL_save_r4 ++ (wsL_save_r5 ++ wsL_save_r6))))) ++ wsX60 ++ wsX50 ++ wsX10 ++ wsX30 ++ wsX00 ++ wsX40 ++ wsX20 ++ (vx_atS RX6 33 "java/lang/IllegalArgumentException" ["java/lang/RuntimeException", "java/lang/Exception"]).filter goodWord)
def wsL_restore_r1 : List Cond := [Cond.classLink RL 13 "java/lang/IllegalArgumentException", Cond.classLink RL 43 "java/lang/IllegalStateException", Cond.methodLink RL 74 yX6_restore, Cond.instanceMethod yX6_restore, Cond.selects RX6 yX6_restore yX6_restore, Cond.initialized RX6, Cond.code yX6_restore cX6_restore 3 none, Cond.classLink RX6 29 "java/lang/IllegalArgumentException", Cond.initialized "java/lang/IllegalArgumentException", Cond.classLink RX6 149 "java/lang/IllegalStateException", Cond.initialized "java/lang/IllegalStateException", Cond.fieldLink RX6 19 "GridInverter" "slots" "[LGridInverter$Simulation;", Cond.fieldLink RX6 10 "GridInverter" "present" "LGridInverter$Simulation;", Cond.methodLink RX6 23 yX6_outside, Cond.static yX6_outside, Cond.code yX6_outside cX6_outside 3 (some .boolean), Cond.methodLink RX6 245 yX5_takeFrom, Cond.instanceMethod yX5_takeFrom, Cond.selects RX5 yX5_takeFrom yX5_takeFrom, Cond.initialized RX5, Cond.code yX5_takeFrom cX5_takeFrom 2 none, Cond.fieldLink RX5 9 "GridInverter$Simulation" "time" "I", Cond.fieldLink RX5 18 "GridInverter$Simulation" "line" "LGridInverter$Line;", Cond.fieldLink RX5 25 "GridInverter$Simulation" "loop" "LGridInverter$Loop;"]
def wsL_restore_r2 : List Cond := [Cond.fieldLink RX5 32 "GridInverter$Simulation" "inverter" "LGridInverter$Inverter;", Cond.fieldLink RX5 39 "GridInverter$Simulation" "rules" "LGridInverter$Rules;", Cond.fieldLink RX5 46 "GridInverter$Simulation" "log" "LGridInverter$Log;", Cond.methodLink RX5 123 yX1_takeFrom, Cond.instanceMethod yX1_takeFrom, Cond.selects RX1 yX1_takeFrom yX1_takeFrom, Cond.initialized RX1, Cond.code yX1_takeFrom cX1_takeFrom 2 none, Cond.fieldLink RX1 9 "GridInverter$Line" "voltage" "I", Cond.fieldLink RX1 16 "GridInverter$Line" "frequency" "I", Cond.fieldLink RX1 19 "GridInverter$Line" "angle" "I", Cond.fieldLink RX1 22 "GridInverter$Line" "connected" "Z", Cond.fieldLink RX1 26 "GridInverter$Line" "gridVoltage" "I", Cond.fieldLink RX1 29 "GridInverter$Line" "gridFrequency" "I", Cond.fieldLink RX1 32 "GridInverter$Line" "load" "I", Cond.fieldLink RX1 35 "GridInverter$Line" "resonance" "I", Cond.fieldLink RX1 38 "GridInverter$Line" "quality" "I", Cond.methodLink RX1 61 yX1_becomeIsland, Cond.instanceMethod yX1_becomeIsland, Cond.selects RX1 yX1_becomeIsland yX1_becomeIsland, Cond.code yX1_becomeIsland cX1_becomeIsland 4 none, Cond.methodLink RX5 127 yX3_takeFrom, Cond.instanceMethod yX3_takeFrom, Cond.selects RX3 yX3_takeFrom yX3_takeFrom]
def wsL_restore_r3 : List Cond := [Cond.initialized RX3, Cond.code yX3_takeFrom cX3_takeFrom 2 none, Cond.fieldLink RX3 9 "GridInverter$Loop" "angle" "I", Cond.fieldLink RX3 16 "GridInverter$Loop" "frequency" "I", Cond.fieldLink RX3 19 "GridInverter$Loop" "error" "I", Cond.fieldLink RX3 22 "GridInverter$Loop" "kp" "I", Cond.fieldLink RX3 25 "GridInverter$Loop" "ki" "I", Cond.fieldLink RX3 28 "GridInverter$Loop" "tolerance" "I", Cond.fieldLink RX3 31 "GridInverter$Loop" "lockTime" "I", Cond.fieldLink RX3 34 "GridInverter$Loop" "lockCount" "I", Cond.fieldLink RX3 37 "GridInverter$Loop" "past" "[I", Cond.static yX6_copyRow, Cond.code yX6_copyRow cX6_copyRow 2 none, Cond.methodLink RX6 253 Lib.Math.min.name, Cond.static Lib.Math.min.name, Cond.initialized "java/lang/Math", Cond.code Lib.Math.min.name Lib.Math.min.code 2 (some .int), Cond.methodLink RX6 262 arraycopyName, Cond.native arraycopyName, Cond.static arraycopyName, Cond.initialized "java/lang/System", Cond.methodLink RX5 130 yX0_takeFrom, Cond.instanceMethod yX0_takeFrom, Cond.selects RX0 yX0_takeFrom yX0_takeFrom]
def wsL_restore_r4 : List Cond := [Cond.initialized RX0, Cond.code yX0_takeFrom cX0_takeFrom 2 none, Cond.fieldLink RX0 9 "GridInverter$Inverter" "mode" "I", Cond.fieldLink RX0 15 "GridInverter$Inverter" "power" "I", Cond.fieldLink RX0 18 "GridInverter$Inverter" "rating" "I", Cond.fieldLink RX0 21 "GridInverter$Inverter" "delay" "I", Cond.fieldLink RX0 24 "GridInverter$Inverter" "ramp" "I", Cond.fieldLink RX0 27 "GridInverter$Inverter" "readyCount" "I", Cond.fieldLink RX0 30 "GridInverter$Inverter" "lowVoltage" "I", Cond.fieldLink RX0 33 "GridInverter$Inverter" "highVoltage" "I", Cond.fieldLink RX0 37 "GridInverter$Inverter" "lowFrequency" "I", Cond.fieldLink RX0 41 "GridInverter$Inverter" "highFrequency" "I", Cond.fieldLink RX0 44 "GridInverter$Inverter" "shift" "I", Cond.fieldLink RX0 47 "GridInverter$Inverter" "gain" "I", Cond.fieldLink RX0 50 "GridInverter$Inverter" "energy" "J", Cond.fieldLink RX0 54 "GridInverter$Inverter" "runningTicks" "I", Cond.methodLink RX5 133 yX4_takeFrom, Cond.instanceMethod yX4_takeFrom, Cond.selects RX4 yX4_takeFrom yX4_takeFrom, Cond.initialized RX4, Cond.code yX4_takeFrom cX4_takeFrom 2 none, Cond.fieldLink RX4 9 "GridInverter$Rules" "size" "I", Cond.fieldLink RX4 15 "GridInverter$Rules" "kinds" "[I", Cond.fieldLink RX4 19 "GridInverter$Rules" "thresholds" "[I"]
def wsL_restore_r5 : List Cond := [Cond.fieldLink RX4 22 "GridInverter$Rules" "durations" "[I", Cond.fieldLink RX4 25 "GridInverter$Rules" "counts" "[I", Cond.methodLink RX5 136 yX2_takeFrom, Cond.instanceMethod yX2_takeFrom, Cond.selects RX2 yX2_takeFrom yX2_takeFrom, Cond.initialized RX2, Cond.code yX2_takeFrom cX2_takeFrom 2 none, Cond.fieldLink RX2 9 "GridInverter$Log" "size" "I", Cond.fieldLink RX2 15 "GridInverter$Log" "times" "[I", Cond.fieldLink RX2 19 "GridInverter$Log" "causes" "[I"]
def wsL_restore : List Cond := .codeWith yL_restore cL_restore 3 (some .int) [(0, 5, 8, 13), (0, 5, 11, 43)] :: ((wsL_restore_r1 ++ (wsL_restore_r2 ++ (wsL_restore_r3 ++ (wsL_restore_r4 ++ wsL_restore_r5)))) ++ wsX60 ++ wsX50 ++ wsX10 ++ wsX30 ++ wsX00 ++ wsX40 ++ wsX20 ++ (vx_atS RX6 33 "java/lang/IllegalArgumentException" ["java/lang/RuntimeException", "java/lang/Exception"]).filter goodWord ++ (vx_atS RX6 153 "java/lang/IllegalStateException" ["java/lang/RuntimeException", "java/lang/Exception"]).filter goodWord)
def wsL_law0_r1 : List Cond := [Cond.classLink RL 8 RX6, Cond.instantiable RX6 3, Cond.initialized RX6, Cond.classLink RL 78 RX7, Cond.instantiable RX7 7, Cond.initialized RX7, Cond.arrayClass .long, Cond.methodLink RL 77 yX6_init, Cond.instanceMethod yX6_init, Cond.code yX6_init cX6_init 1 none, Cond.methodLink RX6 1 objectInit, Cond.instanceMethod objectInit, Cond.code objectInit ⟨#[0xb1]⟩ 1 none, Cond.classLink RX6 7 RX5, Cond.instantiable RX5 6, Cond.initialized RX5, Cond.fieldLink RX6 10 "GridInverter" "present" "LGridInverter$Simulation;", Cond.fieldLink RX6 16 "GridInverter" "trial" "LGridInverter$Simulation;", Cond.fieldLink RX6 19 "GridInverter" "slots" "[LGridInverter$Simulation;", Cond.instanceMethod yX5_init, Cond.code yX5_init cX5_init 1 none, Cond.methodLink RX5 3 objectInit, Cond.fieldLink RX5 9 "GridInverter$Simulation" "time" "I", Cond.classLink RX5 15 RX1]
def wsL_law0_r2 : List Cond := [Cond.instantiable RX1 9, Cond.initialized RX1, Cond.fieldLink RX5 18 "GridInverter$Simulation" "line" "LGridInverter$Line;", Cond.classLink RX5 22 RX3, Cond.instantiable RX3 9, Cond.initialized RX3, Cond.fieldLink RX5 25 "GridInverter$Simulation" "loop" "LGridInverter$Loop;", Cond.classLink RX5 29 RX0, Cond.instantiable RX0 14, Cond.initialized RX0, Cond.fieldLink RX5 32 "GridInverter$Simulation" "inverter" "LGridInverter$Inverter;", Cond.classLink RX5 36 RX4, Cond.instantiable RX4 5, Cond.initialized RX4, Cond.fieldLink RX5 39 "GridInverter$Simulation" "rules" "LGridInverter$Rules;", Cond.classLink RX5 43 RX2, Cond.instantiable RX2 3, Cond.initialized RX2, Cond.fieldLink RX5 46 "GridInverter$Simulation" "log" "LGridInverter$Log;", Cond.instanceMethod yX1_init, Cond.code yX1_init cX1_init 1 none, Cond.methodLink RX1 3 objectInit, Cond.fieldLink RX1 9 "GridInverter$Line" "voltage" "I", Cond.constant RX1 15 (50000)]
def wsL_law0_r3 : List Cond := [Cond.fieldLink RX1 16 "GridInverter$Line" "frequency" "I", Cond.fieldLink RX1 19 "GridInverter$Line" "angle" "I", Cond.fieldLink RX1 22 "GridInverter$Line" "connected" "Z", Cond.fieldLink RX1 26 "GridInverter$Line" "gridVoltage" "I", Cond.fieldLink RX1 29 "GridInverter$Line" "gridFrequency" "I", Cond.fieldLink RX1 32 "GridInverter$Line" "load" "I", Cond.fieldLink RX1 35 "GridInverter$Line" "resonance" "I", Cond.fieldLink RX1 38 "GridInverter$Line" "quality" "I", Cond.methodLink RX5 24 yX3_init, Cond.instanceMethod yX3_init, Cond.code yX3_init cX3_init 2 none, Cond.methodLink RX3 3 objectInit, Cond.fieldLink RX3 9 "GridInverter$Loop" "angle" "I", Cond.constant RX3 15 (50000), Cond.fieldLink RX3 16 "GridInverter$Loop" "frequency" "I", Cond.fieldLink RX3 19 "GridInverter$Loop" "error" "I", Cond.fieldLink RX3 22 "GridInverter$Loop" "kp" "I", Cond.fieldLink RX3 25 "GridInverter$Loop" "ki" "I", Cond.fieldLink RX3 28 "GridInverter$Loop" "tolerance" "I", Cond.fieldLink RX3 31 "GridInverter$Loop" "lockTime" "I", Cond.fieldLink RX3 34 "GridInverter$Loop" "lockCount" "I", Cond.arrayClass .int, Cond.fieldLink RX3 37 "GridInverter$Loop" "past" "[I", Cond.instanceMethod yX0_init]
def wsL_law0_r4 : List Cond := [Cond.code yX0_init cX0_init 1 none, Cond.methodLink RX0 3 objectInit, Cond.fieldLink RX0 9 "GridInverter$Inverter" "mode" "I", Cond.fieldLink RX0 15 "GridInverter$Inverter" "power" "I", Cond.fieldLink RX0 18 "GridInverter$Inverter" "rating" "I", Cond.fieldLink RX0 21 "GridInverter$Inverter" "delay" "I", Cond.fieldLink RX0 24 "GridInverter$Inverter" "ramp" "I", Cond.fieldLink RX0 27 "GridInverter$Inverter" "readyCount" "I", Cond.fieldLink RX0 30 "GridInverter$Inverter" "lowVoltage" "I", Cond.fieldLink RX0 33 "GridInverter$Inverter" "highVoltage" "I", Cond.constant RX0 36 (49000), Cond.fieldLink RX0 37 "GridInverter$Inverter" "lowFrequency" "I", Cond.constant RX0 40 (51000), Cond.fieldLink RX0 41 "GridInverter$Inverter" "highFrequency" "I", Cond.fieldLink RX0 44 "GridInverter$Inverter" "shift" "I", Cond.fieldLink RX0 47 "GridInverter$Inverter" "gain" "I", Cond.fieldLink RX0 50 "GridInverter$Inverter" "energy" "J", Cond.fieldLink RX0 54 "GridInverter$Inverter" "runningTicks" "I", Cond.instanceMethod yX4_init, Cond.code yX4_init cX4_init 1 none, Cond.methodLink RX4 3 objectInit, Cond.fieldLink RX4 9 "GridInverter$Rules" "size" "I", Cond.fieldLink RX4 15 "GridInverter$Rules" "kinds" "[I", Cond.fieldLink RX4 19 "GridInverter$Rules" "thresholds" "[I"]
def wsL_law0_r5 : List Cond := [Cond.fieldLink RX4 22 "GridInverter$Rules" "durations" "[I", Cond.fieldLink RX4 25 "GridInverter$Rules" "counts" "[I", Cond.instanceMethod yX2_init, Cond.code yX2_init cX2_init 1 none, Cond.methodLink RX2 3 objectInit, Cond.fieldLink RX2 9 "GridInverter$Log" "size" "I", Cond.fieldLink RX2 15 "GridInverter$Log" "times" "[I", Cond.fieldLink RX2 19 "GridInverter$Log" "causes" "[I", Cond.methodLink RL 80 yX7_init, Cond.instanceMethod yX7_init, Cond.code yX7_init cX7_init 2 none, Cond.methodLink RX7 1 objectInit, Cond.fieldLink RX7 7 "GridInverterModel" "at" "[I", Cond.fieldLink RX7 13 "GridInverterModel" "aside" "[I", Cond.fieldLink RX7 16 "GridInverterModel" "slots" "[I", Cond.fieldLink RX7 19 "GridInverterModel" "slotEnergy" "[J", Cond.arrayClass .boolean, Cond.fieldLink RX7 23 "GridInverterModel" "isSaved" "[Z", Cond.constant RX7 27 (50000), Cond.constant RX7 28 (49000), Cond.constant RX7 29 (51000), Cond.methodLink RL 81 yL_setGrid, Cond.static yL_setGrid, Cond.initialized RL]
def wsL_law0_r6 : List Cond := [Cond.codeWith yL_setGrid cL_setGrid 4 (some .int) [(0, 6, 9, 13)], Cond.classLink RL 13 "java/lang/IllegalArgumentException", Cond.methodLink RL 7 yX6_setGrid, Cond.instanceMethod yX6_setGrid, Cond.selects RX6 yX6_setGrid yX6_setGrid, Cond.code yX6_setGrid cX6_setGrid 3 none, Cond.classLink RX6 29 "java/lang/IllegalArgumentException", Cond.initialized "java/lang/IllegalArgumentException", Cond.constant RX6 27 (45000), Cond.constant RX6 28 (65000), Cond.fieldLink RX6 36 "GridInverter$Simulation" "line" "LGridInverter$Line;", Cond.fieldLink RX6 40 "GridInverter$Line" "gridVoltage" "I", Cond.fieldLink RX6 46 "GridInverter$Line" "gridFrequency" "I", Cond.methodLink RX6 23 yX6_outside, Cond.static yX6_outside, Cond.code yX6_outside cX6_outside 3 (some .boolean), Cond.methodLink RL 86 yX7_setGrid, Cond.instanceMethod yX7_setGrid, Cond.selects RX7 yX7_setGrid yX7_setGrid, Cond.code yX7_setGrid cX7_setGrid 3 none, Cond.constant RX7 39 (45000), Cond.constant RX7 40 (65000), Cond.fieldLink RX7 30 "GridInverterModel" "thrown" "I", Cond.methodLink RX7 35 yX7_in]
def wsL_law0_r7 : List Cond := [Cond.static yX7_in, Cond.code yX7_in cX7_in 3 (some .boolean), Cond.methodLink RL 87 yX7_thrown, Cond.instanceMethod yX7_thrown, Cond.selects RX7 yX7_thrown yX7_thrown, Cond.code yX7_thrown cX7_thrown 1 (some .int), Cond.methodLink RL 91 yL_jump, Cond.static yL_jump, Cond.codeWith yL_jump cL_jump 4 (some .int) [(0, 9, 12, 13)], Cond.methodLink RL 15 yX6_jump, Cond.instanceMethod yX6_jump, Cond.selects RX6 yX6_jump yX6_jump, Cond.code yX6_jump cX6_jump 2 (some .int), Cond.constant RX6 49 (-500000), Cond.constant RX6 50 (500000), Cond.fieldLink RX6 57 "GridInverter$Line" "angle" "I", Cond.methodLink RX6 53 yX1_turn, Cond.instanceMethod yX1_turn, Cond.selects RX1 yX1_turn yX1_turn, Cond.code yX1_turn cX1_turn 2 none, Cond.constant RX1 41 (1000000), Cond.methodLink RX1 42 yJ9_floorMod_7cf53, Cond.static yJ9_floorMod_7cf53, Cond.initialized RJ9]
def wsL_law0_r8 : List Cond := [Cond.code yJ9_floorMod_7cf53 cJ9_floorMod_7cf53 3 (some .int), Cond.methodLink RL 94 yX7_jump, Cond.instanceMethod yX7_jump, Cond.selects RX7 yX7_jump yX7_jump, Cond.code yX7_jump cX7_jump 2 (some .int), Cond.constant RX7 41 (-500000), Cond.constant RX7 42 (500000), Cond.methodLink RX7 43 yX7_round, Cond.static yX7_round, Cond.code yX7_round cX7_round 2 (some .int), Cond.constant RX7 34 (1000000), Cond.methodLink RL 95 yX6_connect, Cond.instanceMethod yX6_connect, Cond.selects RX6 yX6_connect yX6_connect, Cond.code yX6_connect cX6_connect 3 (some .boolean), Cond.fieldLink RX6 60 "GridInverter$Line" "connected" "Z", Cond.methodLink RL 99 yX7_connect, Cond.instanceMethod yX7_connect, Cond.selects RX7 yX7_connect yX7_connect, Cond.code yX7_connect cX7_connect 3 (some .boolean), Cond.methodLink RL 100 yL_setLoad, Cond.static yL_setLoad, Cond.codeWith yL_setLoad cL_setLoad 5 (some .int) [(0, 7, 10, 13)], Cond.methodLink RL 19 yX6_setLoad]
def wsL_law0_r9 : List Cond := [Cond.instanceMethod yX6_setLoad, Cond.selects RX6 yX6_setLoad yX6_setLoad, Cond.code yX6_setLoad cX6_setLoad 4 none, Cond.methodLink RX6 64 yX6_badIsland, Cond.static yX6_badIsland, Cond.code yX6_badIsland cX6_badIsland 3 (some .boolean), Cond.methodLink RX6 69 yX1_becomeIsland, Cond.instanceMethod yX1_becomeIsland, Cond.selects RX1 yX1_becomeIsland yX1_becomeIsland, Cond.code yX1_becomeIsland cX1_becomeIsland 4 none, Cond.methodLink RL 103 yX7_setLoad, Cond.instanceMethod yX7_setLoad, Cond.selects RX7 yX7_setLoad yX7_setLoad, Cond.code yX7_setLoad cX7_setLoad 4 none, Cond.methodLink RX7 47 yX7_isIsland, Cond.static yX7_isIsland, Cond.code yX7_isIsland cX7_isIsland 3 (some .boolean), Cond.methodLink RX7 50 yX7_becomeIsland, Cond.instanceMethod yX7_becomeIsland, Cond.selects RX7 yX7_becomeIsland yX7_becomeIsland, Cond.code yX7_becomeIsland cX7_becomeIsland 4 none, Cond.methodLink RL 104 yL_setLoop, Cond.static yL_setLoop, Cond.codeWith yL_setLoop cL_setLoop 4 (some .int) [(0, 6, 9, 13)]]
def wsL_law0_r10 : List Cond := [Cond.methodLink RL 23 yX6_setLoop, Cond.instanceMethod yX6_setLoop, Cond.selects RX6 yX6_setLoop yX6_setLoop, Cond.code yX6_setLoop cX6_setLoop 3 none, Cond.fieldLink RX6 75 "GridInverter$Simulation" "loop" "LGridInverter$Loop;", Cond.fieldLink RX6 79 "GridInverter$Loop" "kp" "I", Cond.fieldLink RX6 84 "GridInverter$Loop" "ki" "I", Cond.methodLink RL 106 yX7_setLoop, Cond.instanceMethod yX7_setLoop, Cond.selects RX7 yX7_setLoop yX7_setLoop, Cond.code yX7_setLoop cX7_setLoop 3 none, Cond.methodLink RL 107 yL_setLock, Cond.static yL_setLock, Cond.codeWith yL_setLock cL_setLock 4 (some .int) [(0, 6, 9, 13)], Cond.methodLink RL 26 yX6_setLock, Cond.instanceMethod yX6_setLock, Cond.selects RX6 yX6_setLock yX6_setLock, Cond.code yX6_setLock cX6_setLock 3 none, Cond.constant RX6 87 (100000), Cond.fieldLink RX6 90 "GridInverter$Loop" "tolerance" "I", Cond.fieldLink RX6 93 "GridInverter$Loop" "lockTime" "I", Cond.methodLink RL 109 yX7_setLock, Cond.instanceMethod yX7_setLock, Cond.selects RX7 yX7_setLock yX7_setLock]
def wsL_law0_r11 : List Cond := [Cond.code yX7_setLock cX7_setLock 3 none, Cond.constant RX7 54 (100000), Cond.methodLink RL 110 yL_setWindow, Cond.static yL_setWindow, Cond.codeWith yL_setWindow cL_setWindow 6 (some .int) [(0, 9, 12, 13)], Cond.methodLink RL 29 yX6_setWindow, Cond.instanceMethod yX6_setWindow, Cond.selects RX6 yX6_setWindow yX6_setWindow, Cond.code yX6_setWindow cX6_setWindow 6 none, Cond.constant RX6 96 (40000), Cond.constant RX6 97 (70000), Cond.fieldLink RX6 100 "GridInverter$Simulation" "inverter" "LGridInverter$Inverter;", Cond.fieldLink RX6 104 "GridInverter$Inverter" "lowVoltage" "I", Cond.fieldLink RX6 109 "GridInverter$Inverter" "highVoltage" "I", Cond.fieldLink RX6 112 "GridInverter$Inverter" "lowFrequency" "I", Cond.fieldLink RX6 115 "GridInverter$Inverter" "highFrequency" "I", Cond.methodLink RL 113 yX7_setWindow, Cond.instanceMethod yX7_setWindow, Cond.selects RX7 yX7_setWindow yX7_setWindow, Cond.code yX7_setWindow cX7_setWindow 6 none, Cond.constant RX7 55 (40000), Cond.constant RX7 56 (70000), Cond.methodLink RL 114 yL_setPower, Cond.static yL_setPower]
def wsL_law0_r12 : List Cond := [Cond.codeWith yL_setPower cL_setPower 5 (some .int) [(0, 7, 10, 13)], Cond.methodLink RL 33 yX6_setPower, Cond.instanceMethod yX6_setPower, Cond.selects RX6 yX6_setPower yX6_setPower, Cond.code yX6_setPower cX6_setPower 4 none, Cond.fieldLink RX6 120 "GridInverter$Inverter" "delay" "I", Cond.fieldLink RX6 123 "GridInverter$Inverter" "ramp" "I", Cond.fieldLink RX6 126 "GridInverter$Inverter" "rating" "I", Cond.methodLink RL 116 yX7_setPower, Cond.instanceMethod yX7_setPower, Cond.selects RX7 yX7_setPower yX7_setPower, Cond.code yX7_setPower cX7_setPower 4 none, Cond.methodLink RL 117 yL_setDrift, Cond.static yL_setDrift, Cond.codeWith yL_setDrift cL_setDrift 4 (some .int) [(0, 6, 9, 13)], Cond.methodLink RL 36 yX6_setDrift, Cond.instanceMethod yX6_setDrift, Cond.selects RX6 yX6_setDrift yX6_setDrift, Cond.code yX6_setDrift cX6_setDrift 3 none, Cond.fieldLink RX6 131 "GridInverter$Inverter" "shift" "I", Cond.fieldLink RX6 134 "GridInverter$Inverter" "gain" "I", Cond.methodLink RL 119 yX7_setDrift, Cond.instanceMethod yX7_setDrift, Cond.selects RX7 yX7_setDrift yX7_setDrift]
def wsL_law0_r13 : List Cond := [Cond.code yX7_setDrift cX7_setDrift 3 none, Cond.methodLink RL 120 yL_addRule, Cond.static yL_addRule, Cond.codeWith yL_addRule cL_addRule 6 (some .int) [(0, 12, 15, 13), (0, 12, 19, 43)], Cond.classLink RL 43 "java/lang/IllegalStateException", Cond.methodLink RL 39 yX6_addRule, Cond.instanceMethod yX6_addRule, Cond.selects RX6 yX6_addRule yX6_addRule, Cond.code yX6_addRule cX6_addRule 5 (some .int), Cond.classLink RX6 149 "java/lang/IllegalStateException", Cond.initialized "java/lang/IllegalStateException", Cond.fieldLink RX6 139 "GridInverter$Simulation" "rules" "LGridInverter$Rules;", Cond.methodLink RX6 143 yX4_append, Cond.instanceMethod yX4_append, Cond.selects RX4 yX4_append yX4_append, Cond.code yX4_append cX4_append 5 (some .int), Cond.methodLink RL 123 yX7_addRule, Cond.instanceMethod yX7_addRule, Cond.selects RX7 yX7_addRule yX7_addRule, Cond.code yX7_addRule cX7_addRule 5 (some .int), Cond.methodLink RL 124 yX6_clearRules, Cond.instanceMethod yX6_clearRules, Cond.selects RX6 yX6_clearRules yX6_clearRules, Cond.code yX6_clearRules cX6_clearRules 2 (some .int)]
def wsL_law0_r14 : List Cond := [Cond.fieldLink RX6 154 "GridInverter$Rules" "size" "I", Cond.methodLink RL 127 yX7_clearRules, Cond.instanceMethod yX7_clearRules, Cond.selects RX7 yX7_clearRules yX7_clearRules, Cond.code yX7_clearRules cX7_clearRules 2 (some .int), Cond.methodLink RL 128 yX6_start, Cond.instanceMethod yX6_start, Cond.selects RX6 yX6_start yX6_start, Cond.code yX6_start cX6_start 1 (some .boolean), Cond.methodLink RX6 157 yX0_leaveStop, Cond.instanceMethod yX0_leaveStop, Cond.selects RX0 yX0_leaveStop yX0_leaveStop, Cond.code yX0_leaveStop cX0_leaveStop 1 (some .boolean), Cond.methodLink RL 132 yX7_start, Cond.instanceMethod yX7_start, Cond.selects RX7 yX7_start yX7_start, Cond.code yX7_start cX7_start 2 (some .boolean), Cond.methodLink RL 133 yX6_stop, Cond.instanceMethod yX6_stop, Cond.selects RX6 yX6_stop yX6_stop, Cond.code yX6_stop cX6_stop 1 (some .boolean), Cond.methodLink RX6 161 yX5_stopByCall, Cond.instanceMethod yX5_stopByCall, Cond.selects RX5 yX5_stopByCall yX5_stopByCall]
def wsL_law0_r15 : List Cond := [Cond.code yX5_stopByCall cX5_stopByCall 2 (some .boolean), Cond.fieldLink RX5 81 "GridInverter$Inverter" "mode" "I", Cond.fieldLink RX5 50 "GridInverter$Inverter" "power" "I", Cond.methodLink RX5 120 yX2_append, Cond.instanceMethod yX2_append, Cond.selects RX2 yX2_append yX2_append, Cond.code yX2_append cX2_append 4 none, Cond.methodLink RX2 22 yJ9_floorMod_7cf53, Cond.methodLink RL 136 yX7_stop, Cond.instanceMethod yX7_stop, Cond.selects RX7 yX7_stop yX7_stop, Cond.code yX7_stop cX7_stop 2 (some .boolean), Cond.methodLink RX7 57 yX7_note, Cond.instanceMethod yX7_note, Cond.selects RX7 yX7_note yX7_note, Cond.code yX7_note cX7_note 2 none, Cond.methodLink RL 137 yL_advance, Cond.static yL_advance, Cond.codeWith yL_advance cL_advance 4 (some .int) [(0, 9, 12, 13)], Cond.methodLink RL 45 yX6_advance, Cond.instanceMethod yX6_advance, Cond.selects RX6 yX6_advance yX6_advance, Cond.code yX6_advance cX6_advance 3 (some .int), Cond.fieldLink RX6 169 "GridInverter$Simulation" "time" "I"]
def wsL_law0_r16 : List Cond := [Cond.methodLink RX6 166 yX5_tick, Cond.instanceMethod yX5_tick, Cond.selects RX5 yX5_tick yX5_tick, Cond.code yX5_tick cX5_tick 3 none, Cond.fieldLink RX5 53 "GridInverter$Loop" "frequency" "I", Cond.fieldLink RX5 64 "GridInverter$Line" "frequency" "I", Cond.fieldLink RX5 69 "GridInverter$Line" "angle" "I", Cond.fieldLink RX5 72 "GridInverter$Line" "voltage" "I", Cond.methodLink RX5 56 yX0_drifted, Cond.instanceMethod yX0_drifted, Cond.selects RX0 yX0_drifted yX0_drifted, Cond.code yX0_drifted cX0_drifted 2 (some .int), Cond.constant RX0 57 (50000), Cond.methodLink RX5 60 yX1_settle, Cond.instanceMethod yX1_settle, Cond.selects RX1 yX1_settle yX1_settle, Cond.code yX1_settle cX1_settle 3 none, Cond.methodLink RX1 48 yX1_islandVoltage, Cond.instanceMethod yX1_islandVoltage, Cond.selects RX1 yX1_islandVoltage yX1_islandVoltage, Cond.code yX1_islandVoltage cX1_islandVoltage 2 (some .int), Cond.methodLink RX1 55 Lib.Math.min.name, Cond.static Lib.Math.min.name, Cond.initialized "java/lang/Math"]
def wsL_law0_r17 : List Cond := [Cond.code Lib.Math.min.name Lib.Math.min.code 2 (some .int), Cond.methodLink RX1 52 yX1_islandFrequency, Cond.instanceMethod yX1_islandFrequency, Cond.selects RX1 yX1_islandFrequency yX1_islandFrequency, Cond.code yX1_islandFrequency cX1_islandFrequency 4 (some .int), Cond.static yX6_limitedFrequency, Cond.code yX6_limitedFrequency cX6_limitedFrequency 1 (some .int), Cond.methodLink RX6 253 Lib.Math.min.name, Cond.methodLink RX6 259 Lib.Math.max.name, Cond.static Lib.Math.max.name, Cond.code Lib.Math.max.name Lib.Math.max.code 2 (some .int), Cond.methodLink RX5 65 yX1_turn, Cond.methodLink RX5 75 yX3_follow, Cond.instanceMethod yX3_follow, Cond.selects RX3 yX3_follow yX3_follow, Cond.code yX3_follow cX3_follow 4 none, Cond.constant RX3 41 (500000), Cond.constant RX3 42 (1000000), Cond.methodLink RX3 43 yJ9_floorMod_7cf53, Cond.methodLink RX5 78 yX3_changeUntil, Cond.instanceMethod yX3_changeUntil, Cond.selects RX3 yX3_changeUntil yX3_changeUntil, Cond.code yX3_changeUntil cX3_changeUntil 4 (some .int), Cond.methodLink RX5 84 yX5_protect]
def wsL_law0_r18 : List Cond := [Cond.instanceMethod yX5_protect, Cond.selects RX5 yX5_protect yX5_protect, Cond.code yX5_protect cX5_protect 3 none, Cond.methodLink RX5 93 yX3_holdsLock, Cond.instanceMethod yX3_holdsLock, Cond.selects RX3 yX3_holdsLock yX3_holdsLock, Cond.code yX3_holdsLock cX3_holdsLock 1 (some .boolean), Cond.methodLink RX5 97 yX5_trip, Cond.instanceMethod yX5_trip, Cond.selects RX5 yX5_trip yX5_trip, Cond.code yX5_trip cX5_trip 2 none, Cond.fieldLink RX5 111 "GridInverter$Inverter" "readyCount" "I", Cond.methodLink RX5 100 yX4_countViolations, Cond.instanceMethod yX4_countViolations, Cond.selects RX4 yX4_countViolations yX4_countViolations, Cond.code yX4_countViolations cX4_countViolations 7 (some .int), Cond.methodLink RX4 32 yX4_isViolated, Cond.static yX4_isViolated, Cond.code yX4_isViolated cX4_isViolated 5 (some .boolean), Cond.methodLink RX5 104 yX0_raisePower, Cond.instanceMethod yX0_raisePower, Cond.selects RX0 yX0_raisePower yX0_raisePower, Cond.code yX0_raisePower cX0_raisePower 1 none, Cond.methodLink RX0 62 Lib.Math.min.name]
def wsL_law0_r19 : List Cond := [Cond.methodLink RX5 87 yX5_prepare, Cond.instanceMethod yX5_prepare, Cond.selects RX5 yX5_prepare yX5_prepare, Cond.code yX5_prepare cX5_prepare 2 none, Cond.fieldLink RX5 114 "GridInverter$Inverter" "delay" "I", Cond.methodLink RX5 107 yX0_admits, Cond.instanceMethod yX0_admits, Cond.selects RX0 yX0_admits yX0_admits, Cond.code yX0_admits cX0_admits 3 (some .boolean), Cond.methodLink RX5 117 yX4_forgetViolations, Cond.instanceMethod yX4_forgetViolations, Cond.selects RX4 yX4_forgetViolations yX4_forgetViolations, Cond.code yX4_forgetViolations cX4_forgetViolations 2 none, Cond.methodLink RX5 90 yX0_account, Cond.instanceMethod yX0_account, Cond.selects RX0 yX0_account yX0_account, Cond.code yX0_account cX0_account 1 none, Cond.methodLink RL 139 yX7_advance, Cond.instanceMethod yX7_advance, Cond.selects RX7 yX7_advance yX7_advance, Cond.code yX7_advance cX7_advance 3 (some .int), Cond.fieldLink RX7 91 "GridInverterModel" "energy" "J", Cond.methodLink RX7 88 yX7_tick, Cond.instanceMethod yX7_tick]
def wsL_law0_r20 : List Cond := [Cond.selects RX7 yX7_tick yX7_tick, Cond.code yX7_tick cX7_tick 1 none, Cond.methodLink RX7 76 yX7_feedLine, Cond.instanceMethod yX7_feedLine, Cond.selects RX7 yX7_feedLine yX7_feedLine, Cond.code yX7_feedLine cX7_feedLine 4 none, Cond.methodLink RX7 61 yX7_limited, Cond.static yX7_limited, Cond.code yX7_limited cX7_limited 3 (some .int), Cond.methodLink RX7 79 yX7_follow, Cond.instanceMethod yX7_follow, Cond.selects RX7 yX7_follow yX7_follow, Cond.code yX7_follow cX7_follow 3 none, Cond.methodLink RX7 82 yX7_run, Cond.instanceMethod yX7_run, Cond.selects RX7 yX7_run yX7_run, Cond.code yX7_run cX7_run 3 none, Cond.methodLink RX7 65 yX7_hasLock, Cond.instanceMethod yX7_hasLock, Cond.selects RX7 yX7_hasLock yX7_hasLock, Cond.code yX7_hasLock cX7_hasLock 1 (some .boolean), Cond.methodLink RX7 69 yX7_trip, Cond.instanceMethod yX7_trip, Cond.selects RX7 yX7_trip yX7_trip]
def wsL_law0_r21 : List Cond := [Cond.code yX7_trip cX7_trip 2 none, Cond.methodLink RX7 72 yX7_isViolated, Cond.instanceMethod yX7_isViolated, Cond.selects RX7 yX7_isViolated yX7_isViolated, Cond.code yX7_isViolated cX7_isViolated 4 (some .boolean), Cond.methodLink RX7 85 yX7_await, Cond.instanceMethod yX7_await, Cond.selects RX7 yX7_await yX7_await, Cond.code yX7_await cX7_await 3 none, Cond.methodLink RL 140 yX6_state, Cond.instanceMethod yX6_state, Cond.selects RX6 yX6_state yX6_state, Cond.code yX6_state cX6_state 1 (some .int), Cond.fieldLink RX6 172 "GridInverter$Inverter" "mode" "I", Cond.methodLink RL 143 yX7_state, Cond.instanceMethod yX7_state, Cond.selects RX7 yX7_state yX7_state, Cond.code yX7_state cX7_state 1 (some .int), Cond.methodLink RL 144 yX6_isLocked, Cond.instanceMethod yX6_isLocked, Cond.selects RX6 yX6_isLocked yX6_isLocked, Cond.code yX6_isLocked cX6_isLocked 1 (some .boolean), Cond.methodLink RX6 175 yX3_holdsLock, Cond.methodLink RL 147 yX7_isLocked]
def wsL_law0_r22 : List Cond := [Cond.instanceMethod yX7_isLocked, Cond.selects RX7 yX7_isLocked yX7_isLocked, Cond.code yX7_isLocked cX7_isLocked 1 (some .boolean), Cond.methodLink RL 148 yL_measure, Cond.static yL_measure, Cond.codeWith yL_measure cL_measure 4 (some .int) [(0, 9, 12, 13)], Cond.methodLink RL 48 yX6_measure, Cond.instanceMethod yX6_measure, Cond.selects RX6 yX6_measure yX6_measure, Cond.code yX6_measure cX6_measure 2 (some .int), Cond.fieldLink RX6 178 "GridInverter$Line" "voltage" "I", Cond.fieldLink RX6 181 "GridInverter$Line" "frequency" "I", Cond.fieldLink RX6 184 "GridInverter$Loop" "angle" "I", Cond.fieldLink RX6 185 "GridInverter$Loop" "frequency" "I", Cond.fieldLink RX6 186 "GridInverter$Loop" "error" "I", Cond.fieldLink RX6 189 "GridInverter$Loop" "lockCount" "I", Cond.fieldLink RX6 192 "GridInverter$Inverter" "readyCount" "I", Cond.fieldLink RX6 195 "GridInverter$Inverter" "power" "I", Cond.methodLink RL 150 yX7_measure, Cond.instanceMethod yX7_measure, Cond.selects RX7 yX7_measure yX7_measure, Cond.code yX7_measure cX7_measure 2 (some .int), Cond.methodLink RL 151 yL_violations, Cond.static yL_violations]
def wsL_law0_r23 : List Cond := [Cond.codeWith yL_violations cL_violations 4 (some .int) [(0, 9, 12, 54)], Cond.classLink RL 54 "java/lang/IndexOutOfBoundsException", Cond.methodLink RL 51 yX6_violations, Cond.instanceMethod yX6_violations, Cond.selects RX6 yX6_violations yX6_violations, Cond.code yX6_violations cX6_violations 3 (some .int), Cond.classLink RX6 204 "java/lang/IndexOutOfBoundsException", Cond.initialized "java/lang/IndexOutOfBoundsException", Cond.methodLink RX6 200 yX4_countOf, Cond.instanceMethod yX4_countOf, Cond.selects RX4 yX4_countOf yX4_countOf, Cond.code yX4_countOf cX4_countOf 2 (some .int), Cond.methodLink RL 153 yX7_violations, Cond.instanceMethod yX7_violations, Cond.selects RX7 yX7_violations yX7_violations, Cond.code yX7_violations cX7_violations 2 (some .int), Cond.methodLink RL 154 yX6_energy, Cond.instanceMethod yX6_energy, Cond.selects RX6 yX6_energy yX6_energy, Cond.code yX6_energy cX6_energy 1 (some .long), Cond.fieldLink RX6 209 "GridInverter$Inverter" "energy" "J", Cond.methodLink RL 158 yX7_energy, Cond.instanceMethod yX7_energy, Cond.selects RX7 yX7_energy yX7_energy]
def wsL_law0_r24 : List Cond := [Cond.code yX7_energy cX7_energy 1 (some .long), Cond.methodLink RL 159 yX6_availability, Cond.instanceMethod yX6_availability, Cond.selects RX6 yX6_availability yX6_availability, Cond.code yX6_availability cX6_availability 2 (some .double), Cond.fieldLink RX6 213 "GridInverter$Inverter" "runningTicks" "I", Cond.methodLink RL 163 yX7_availability, Cond.instanceMethod yX7_availability, Cond.selects RX7 yX7_availability yX7_availability, Cond.code yX7_availability cX7_availability 1 (some .double), Cond.methodLink RL 164 yX6_events, Cond.instanceMethod yX6_events, Cond.selects RX6 yX6_events yX6_events, Cond.code yX6_events cX6_events 1 (some .int), Cond.fieldLink RX6 216 "GridInverter$Simulation" "log" "LGridInverter$Log;", Cond.fieldLink RX6 220 "GridInverter$Log" "size" "I", Cond.methodLink RL 167 yX7_events, Cond.instanceMethod yX7_events, Cond.selects RX7 yX7_events yX7_events, Cond.code yX7_events cX7_events 1 (some .int), Cond.methodLink RL 168 yL_event, Cond.static yL_event, Cond.codeWith yL_event cL_event 5 (some .int) [(0, 10, 13, 13)], Cond.methodLink RL 56 yX6_event]
def wsL_law0_r25 : List Cond := [Cond.instanceMethod yX6_event, Cond.selects RX6 yX6_event yX6_event, Cond.code yX6_event cX6_event 3 (some .int), Cond.methodLink RX6 225 yX2_timeOf, Cond.instanceMethod yX2_timeOf, Cond.selects RX2 yX2_timeOf yX2_timeOf, Cond.code yX2_timeOf cX2_timeOf 2 (some .int), Cond.methodLink RX2 28 yX2_isKept, Cond.instanceMethod yX2_isKept, Cond.selects RX2 yX2_isKept yX2_isKept, Cond.code yX2_isKept cX2_isKept 2 (some .boolean), Cond.methodLink RX6 228 yX2_causeOf, Cond.instanceMethod yX2_causeOf, Cond.selects RX2 yX2_causeOf yX2_causeOf, Cond.code yX2_causeOf cX2_causeOf 2 (some .int), Cond.methodLink RL 171 yX7_event, Cond.instanceMethod yX7_event, Cond.selects RX7 yX7_event yX7_event, Cond.code yX7_event cX7_event 3 (some .int), Cond.methodLink RL 172 yL_islandTime, Cond.static yL_islandTime, Cond.codeWith yL_islandTime cL_islandTime 7 (some .int) [(0, 14, 17, 13), (0, 14, 21, 43)], Cond.methodLink RL 60 yX6_islandTime, Cond.instanceMethod yX6_islandTime]
def wsL_law0_r26 : List Cond := [Cond.selects RX6 yX6_islandTime yX6_islandTime, Cond.code yX6_islandTime cX6_islandTime 5 (some .int), Cond.methodLink RX6 235 yX6_ticksToDetect, Cond.instanceMethod yX6_ticksToDetect, Cond.selects RX6 yX6_ticksToDetect yX6_ticksToDetect, Cond.code yX6_ticksToDetect cX6_ticksToDetect 6 (some .int), Cond.methodLink RX6 245 yX5_takeFrom, Cond.instanceMethod yX5_takeFrom, Cond.selects RX5 yX5_takeFrom yX5_takeFrom, Cond.code yX5_takeFrom cX5_takeFrom 2 none, Cond.methodLink RX5 123 yX1_takeFrom, Cond.instanceMethod yX1_takeFrom, Cond.selects RX1 yX1_takeFrom yX1_takeFrom, Cond.code yX1_takeFrom cX1_takeFrom 2 none, Cond.methodLink RX1 61 yX1_becomeIsland, Cond.methodLink RX5 127 yX3_takeFrom, Cond.instanceMethod yX3_takeFrom, Cond.selects RX3 yX3_takeFrom yX3_takeFrom, Cond.code yX3_takeFrom cX3_takeFrom 2 none, Cond.static yX6_copyRow, Cond.code yX6_copyRow cX6_copyRow 2 none, Cond.methodLink RX6 262 arraycopyName, Cond.native arraycopyName, Cond.static arraycopyName]
def wsL_law0_r27 : List Cond := [Cond.initialized "java/lang/System", Cond.methodLink RX5 130 yX0_takeFrom, Cond.instanceMethod yX0_takeFrom, Cond.selects RX0 yX0_takeFrom yX0_takeFrom, Cond.code yX0_takeFrom cX0_takeFrom 2 none, Cond.methodLink RX5 133 yX4_takeFrom, Cond.instanceMethod yX4_takeFrom, Cond.selects RX4 yX4_takeFrom yX4_takeFrom, Cond.code yX4_takeFrom cX4_takeFrom 2 none, Cond.methodLink RX5 136 yX2_takeFrom, Cond.instanceMethod yX2_takeFrom, Cond.selects RX2 yX2_takeFrom yX2_takeFrom, Cond.code yX2_takeFrom cX2_takeFrom 2 none, Cond.methodLink RL 175 yX7_islandTime, Cond.instanceMethod yX7_islandTime, Cond.selects RX7 yX7_islandTime yX7_islandTime, Cond.code yX7_islandTime cX7_islandTime 5 (some .int), Cond.methodLink RX7 101 yX7_tryIsland, Cond.instanceMethod yX7_tryIsland, Cond.selects RX7 yX7_tryIsland yX7_tryIsland, Cond.code yX7_tryIsland cX7_tryIsland 7 (some .int), Cond.methodLink RX7 95 yX7_putAside, Cond.instanceMethod yX7_putAside, Cond.selects RX7 yX7_putAside yX7_putAside]
def wsL_law0_r28 : List Cond := [Cond.code yX7_putAside cX7_putAside 2 none, Cond.methodLink RX7 98 yX7_putBack, Cond.instanceMethod yX7_putBack, Cond.selects RX7 yX7_putBack yX7_putBack, Cond.code yX7_putBack cX7_putBack 2 none, Cond.methodLink RL 176 yL_undetected, Cond.static yL_undetected, Cond.codeWith yL_undetected cL_undetected 7 (some .int) [(0, 14, 17, 13), (0, 14, 21, 43)], Cond.methodLink RL 64 yX6_undetected, Cond.instanceMethod yX6_undetected, Cond.selects RX6 yX6_undetected yX6_undetected, Cond.code yX6_undetected cX6_undetected 8 (some .int), Cond.fieldLink RX6 239 "GridInverter$Line" "resonance" "I", Cond.fieldLink RX6 242 "GridInverter$Line" "quality" "I", Cond.methodLink RL 178 yX7_undetected, Cond.instanceMethod yX7_undetected, Cond.selects RX7 yX7_undetected yX7_undetected, Cond.code yX7_undetected cX7_undetected 8 (some .int), Cond.methodLink RL 179 yL_relockTime, Cond.static yL_relockTime, Cond.codeWith yL_relockTime cL_relockTime 5 (some .int) [(0, 10, 13, 13)], Cond.methodLink RL 67 yX6_relockTime, Cond.instanceMethod yX6_relockTime, Cond.selects RX6 yX6_relockTime yX6_relockTime]
def wsL_law0_r29 : List Cond := [Cond.code yX6_relockTime cX6_relockTime 4 (some .int), Cond.methodLink RL 181 yX7_relockTime, Cond.instanceMethod yX7_relockTime, Cond.selects RX7 yX7_relockTime yX7_relockTime, Cond.code yX7_relockTime cX7_relockTime 5 (some .int), Cond.methodLink RL 182 yL_save, Cond.static yL_save, Cond.codeWith yL_save cL_save 3 (some .int) [(0, 5, 8, 13)], Cond.methodLink RL 70 yX6_save, Cond.instanceMethod yX6_save, Cond.selects RX6 yX6_save yX6_save, Cond.code yX6_save cX6_save 3 none, Cond.methodLink RL 185 yX7_save, Cond.instanceMethod yX7_save, Cond.selects RX7 yX7_save yX7_save, Cond.code yX7_save cX7_save 3 none, Cond.methodLink RL 186 yL_restore, Cond.static yL_restore, Cond.codeWith yL_restore cL_restore 3 (some .int) [(0, 5, 8, 13), (0, 5, 11, 43)], Cond.methodLink RL 74 yX6_restore, Cond.instanceMethod yX6_restore, Cond.selects RX6 yX6_restore yX6_restore, Cond.code yX6_restore cX6_restore 3 none, Cond.methodLink RL 188 yX7_restore]
def wsL_law0_r30 : List Cond := [Cond.instanceMethod yX7_restore, Cond.selects RX7 yX7_restore yX7_restore, Cond.code yX7_restore cX7_restore 3 none]
def wsL_law0 : List Cond := (wsL_law0_r1 ++ (wsL_law0_r2 ++ (wsL_law0_r3 ++ (wsL_law0_r4 ++ (wsL_law0_r5 ++ (wsL_law0_r6 ++ (wsL_law0_r7 ++ (wsL_law0_r8 ++ (wsL_law0_r9 ++ (wsL_law0_r10 ++ (wsL_law0_r11 ++ (wsL_law0_r12 ++ (wsL_law0_r13 ++ (wsL_law0_r14 ++ (wsL_law0_r15 ++ (wsL_law0_r16 ++ (wsL_law0_r17 ++ (wsL_law0_r18 ++ (wsL_law0_r19 ++ (wsL_law0_r20 ++ (wsL_law0_r21 ++ (wsL_law0_r22 ++ (wsL_law0_r23 ++ (wsL_law0_r24 ++ (wsL_law0_r25 ++ (wsL_law0_r26 ++ (wsL_law0_r27 ++ (wsL_law0_r28 ++ (wsL_law0_r29 ++ wsL_law0_r30))))))))))))))))))))))))))))) ++ wsX60 ++ wsX70 ++ wsX50 ++ wsX10 ++ wsX30 ++ wsX00 ++ wsX40 ++ wsX20 ++ ([] : List Cond)
def wsL_law : List Cond := wsL_law0 ++ (vx_atS RX6 33 "java/lang/IllegalArgumentException" ["java/lang/RuntimeException", "java/lang/Exception"]).filter goodWord ++ (vx_atS RX6 153 "java/lang/IllegalStateException" ["java/lang/RuntimeException", "java/lang/Exception"]).filter goodWord ++ (vx_atS RX6 208 "java/lang/IndexOutOfBoundsException" ["java/lang/RuntimeException", "java/lang/Exception"]).filter goodWord
end
section
set_option maxRecDepth 20000 in
theorem wsL_law0_r1_in : ∀ w ∈ wsL_law0_r1, w ∈ lw_tbl := fun w h => (goodIn_p wsL_law0_r1 [42, 45, 50] (by decide +kernel) (by decide +kernel) w h).1
set_option maxRecDepth 20000 in
theorem wsL_law0_r2_in : ∀ w ∈ wsL_law0_r2, w ∈ lw_tbl := fun w h => (goodIn_p wsL_law0_r2 [56] (by decide +kernel) (by decide +kernel) w h).1
set_option maxRecDepth 20000 in
theorem wsL_law0_r3_in : ∀ w ∈ wsL_law0_r3, w ∈ lw_tbl := fun w h => (goodIn_p wsL_law0_r3 [102] (by decide +kernel) (by decide +kernel) w h).1
set_option maxRecDepth 20000 in
theorem wsL_law0_r4_in : ∀ w ∈ wsL_law0_r4, w ∈ lw_tbl := fun w h => (goodIn_p wsL_law0_r4 [147, 216] (by decide +kernel) (by decide +kernel) w h).1
set_option maxRecDepth 20000 in
theorem wsL_law0_r5_in : ∀ w ∈ wsL_law0_r5, w ∈ lw_tbl := fun w h => (goodIn_p wsL_law0_r5 [239, 755] (by decide +kernel) (by decide +kernel) w h).1
set_option maxRecDepth 20000 in
theorem wsL_law0_r6_in : ∀ w ∈ wsL_law0_r6, w ∈ lw_tbl := fun w h => (goodIn_p wsL_law0_r6 [350, 353, 791] (by decide +kernel) (by decide +kernel) w h).1
end
section
set_option maxRecDepth 20000 in
theorem wsL_law0_r7_in : ∀ w ∈ wsL_law0_r7, w ∈ lw_tbl := fun w h => (goodIn_p wsL_law0_r7 [794, 787, 430, 437] (by decide +kernel) (by decide +kernel) w h).1
set_option maxRecDepth 20000 in
theorem wsL_law0_r8_in : ∀ w ∈ wsL_law0_r8, w ∈ lw_tbl := fun w h => (goodIn_p wsL_law0_r8 [318, 800, 805, 291, 810] (by decide +kernel) (by decide +kernel) w h).1
set_option maxRecDepth 20000 in
theorem wsL_law0_r9_in : ∀ w ∈ wsL_law0_r9, w ∈ lw_tbl := fun w h => (goodIn_p wsL_law0_r9 [446, 449, 454, 814, 817, 821] (by decide +kernel) (by decide +kernel) w h).1
set_option maxRecDepth 20000 in
theorem wsL_law0_r10_in : ∀ w ∈ wsL_law0_r10, w ∈ lw_tbl := fun w h => (goodIn_p wsL_law0_r10 [461, 825, 469] (by decide +kernel) (by decide +kernel) w h).1
set_option maxRecDepth 20000 in
theorem wsL_law0_r11_in : ∀ w ∈ wsL_law0_r11, w ∈ lw_tbl := fun w h => (goodIn_p wsL_law0_r11 [829, 478, 834] (by decide +kernel) (by decide +kernel) w h).1
set_option maxRecDepth 20000 in
theorem wsL_law0_r12_in : ∀ w ∈ wsL_law0_r12, w ∈ lw_tbl := fun w h => (goodIn_p wsL_law0_r12 [488, 840, 496] (by decide +kernel) (by decide +kernel) w h).1
end
section
set_option maxRecDepth 20000 in
theorem wsL_law0_r13_in : ∀ w ∈ wsL_law0_r13, w ∈ lw_tbl := fun w h => (goodIn_p wsL_law0_r13 [844, 505, 510, 848, 295] (by decide +kernel) (by decide +kernel) w h).1
set_option maxRecDepth 20000 in
theorem wsL_law0_r14_in : ∀ w ∈ wsL_law0_r14, w ∈ lw_tbl := fun w h => (goodIn_p wsL_law0_r14 [852, 299, 303, 856, 307] (by decide +kernel) (by decide +kernel) w h).1
set_option maxRecDepth 20000 in
theorem wsL_law0_r15_in : ∀ w ∈ wsL_law0_r15, w ∈ lw_tbl := fun w h => (goodIn_p wsL_law0_r15 [311, 315, 860, 864, 534] (by decide +kernel) (by decide +kernel) w h).1
set_option maxRecDepth 20000 in
theorem wsL_law0_r16_in : ∀ w ∈ wsL_law0_r16, w ∈ lw_tbl := fun w h => (goodIn_p wsL_law0_r16 [539, 543, 548, 552] (by decide +kernel) (by decide +kernel) w h).1
set_option maxRecDepth 20000 in
theorem wsL_law0_r17_in : ∀ w ∈ wsL_law0_r17, w ∈ lw_tbl := fun w h => (goodIn_p wsL_law0_r17 [555, 559, 562, 566, 571, 580] (by decide +kernel) (by decide +kernel) w h).1
set_option maxRecDepth 20000 in
theorem wsL_law0_r18_in : ∀ w ∈ wsL_law0_r18, w ∈ lw_tbl := fun w h => (goodIn_p wsL_law0_r18 [584, 330, 589, 593, 596, 600] (by decide +kernel) (by decide +kernel) w h).1
end
section
set_option maxRecDepth 20000 in
theorem wsL_law0_r19_in : ∀ w ∈ wsL_law0_r19, w ∈ lw_tbl := fun w h => (goodIn_p wsL_law0_r19 [605, 609, 614, 618, 868] (by decide +kernel) (by decide +kernel) w h).1
set_option maxRecDepth 20000 in
theorem wsL_law0_r20_in : ∀ w ∈ wsL_law0_r20, w ∈ lw_tbl := fun w h => (goodIn_p wsL_law0_r20 [872, 876, 879, 883, 887, 891] (by decide +kernel) (by decide +kernel) w h).1
set_option maxRecDepth 20000 in
theorem wsL_law0_r21_in : ∀ w ∈ wsL_law0_r21, w ∈ lw_tbl := fun w h => (goodIn_p wsL_law0_r21 [895, 899, 903, 322, 907, 326] (by decide +kernel) (by decide +kernel) w h).1
set_option maxRecDepth 20000 in
theorem wsL_law0_r22_in : ∀ w ∈ wsL_law0_r22, w ∈ lw_tbl := fun w h => (goodIn_p wsL_law0_r22 [911, 625, 915] (by decide +kernel) (by decide +kernel) w h).1
set_option maxRecDepth 20000 in
theorem wsL_law0_r23_in : ∀ w ∈ wsL_law0_r23, w ∈ lw_tbl := fun w h => (goodIn_p wsL_law0_r23 [634, 638, 919, 334] (by decide +kernel) (by decide +kernel) w h).1
set_option maxRecDepth 20000 in
theorem wsL_law0_r24_in : ∀ w ∈ wsL_law0_r24, w ∈ lw_tbl := fun w h => (goodIn_p wsL_law0_r24 [923, 338, 927, 342, 931] (by decide +kernel) (by decide +kernel) w h).1
end
section
set_option maxRecDepth 20000 in
theorem wsL_law0_r25_in : ∀ w ∈ wsL_law0_r25, w ∈ lw_tbl := fun w h => (goodIn_p wsL_law0_r25 [661, 666, 670, 674, 935] (by decide +kernel) (by decide +kernel) w h).1
set_option maxRecDepth 20000 in
theorem wsL_law0_r26_in : ∀ w ∈ wsL_law0_r26, w ∈ lw_tbl := fun w h => (goodIn_p wsL_law0_r26 [681, 687, 691, 695, 700, 703] (by decide +kernel) (by decide +kernel) w h).1
set_option maxRecDepth 20000 in
theorem wsL_law0_r27_in : ∀ w ∈ wsL_law0_r27, w ∈ lw_tbl := fun w h => (goodIn_p wsL_law0_r27 [710, 714, 719, 939, 943] (by decide +kernel) (by decide +kernel) w h).1
set_option maxRecDepth 20000 in
theorem wsL_law0_r28_in : ∀ w ∈ wsL_law0_r28, w ∈ lw_tbl := fun w h => (goodIn_p wsL_law0_r28 [947, 951, 727, 955] (by decide +kernel) (by decide +kernel) w h).1
set_option maxRecDepth 20000 in
theorem wsL_law0_r29_in : ∀ w ∈ wsL_law0_r29, w ∈ lw_tbl := fun w h => (goodIn_p wsL_law0_r29 [734, 959, 741, 963, 749] (by decide +kernel) (by decide +kernel) w h).1
set_option maxRecDepth 20000 in
theorem wsL_law0_r30_in : ∀ w ∈ wsL_law0_r30, w ∈ lw_tbl := fun w h => (goodIn_p wsL_law0_r30 [967] (by decide +kernel) (by decide +kernel) w h).1
end
section
set_option maxRecDepth 20000 in
theorem tblX6 : ∀ w ∈ wsX60, w ∈ lw_tbl := by decide +kernel
set_option maxRecDepth 20000 in
theorem tblX7 : ∀ w ∈ wsX70, w ∈ lw_tbl := by decide +kernel
set_option maxRecDepth 20000 in
theorem tblX5 : ∀ w ∈ wsX50, w ∈ lw_tbl := by decide +kernel
set_option maxRecDepth 20000 in
theorem tblX1 : ∀ w ∈ wsX10, w ∈ lw_tbl := by decide +kernel
set_option maxRecDepth 20000 in
theorem tblX3 : ∀ w ∈ wsX30, w ∈ lw_tbl := by decide +kernel
set_option maxRecDepth 20000 in
theorem tblX0 : ∀ w ∈ wsX00, w ∈ lw_tbl := by decide +kernel
set_option maxRecDepth 20000 in
theorem tblX4 : ∀ w ∈ wsX40, w ∈ lw_tbl := by decide +kernel
set_option maxRecDepth 20000 in
theorem tblX2 : ∀ w ∈ wsX20, w ∈ lw_tbl := by decide +kernel
theorem wsL_law_inr : ∀ w ∈ (wsL_law0_r1 ++ (wsL_law0_r2 ++ (wsL_law0_r3 ++ (wsL_law0_r4 ++ (wsL_law0_r5 ++ (wsL_law0_r6 ++ (wsL_law0_r7 ++ (wsL_law0_r8 ++ (wsL_law0_r9 ++ (wsL_law0_r10 ++ (wsL_law0_r11 ++ (wsL_law0_r12 ++ (wsL_law0_r13 ++ (wsL_law0_r14 ++ (wsL_law0_r15 ++ (wsL_law0_r16 ++ (wsL_law0_r17 ++ (wsL_law0_r18 ++ (wsL_law0_r19 ++ (wsL_law0_r20 ++ (wsL_law0_r21 ++ (wsL_law0_r22 ++ (wsL_law0_r23 ++ (wsL_law0_r24 ++ (wsL_law0_r25 ++ (wsL_law0_r26 ++ (wsL_law0_r27 ++ (wsL_law0_r28 ++ (wsL_law0_r29 ++ wsL_law0_r30))))))))))))))))))))))))))))), w ∈ lw_tbl := by
  intro w h
  rcases List.mem_append.mp h with h | h
  · exact wsL_law0_r1_in w h
  rcases List.mem_append.mp h with h | h
  · exact wsL_law0_r2_in w h
  rcases List.mem_append.mp h with h | h
  · exact wsL_law0_r3_in w h
  rcases List.mem_append.mp h with h | h
  · exact wsL_law0_r4_in w h
  rcases List.mem_append.mp h with h | h
  · exact wsL_law0_r5_in w h
  rcases List.mem_append.mp h with h | h
  · exact wsL_law0_r6_in w h
  rcases List.mem_append.mp h with h | h
  · exact wsL_law0_r7_in w h
  rcases List.mem_append.mp h with h | h
  · exact wsL_law0_r8_in w h
  rcases List.mem_append.mp h with h | h
  · exact wsL_law0_r9_in w h
  rcases List.mem_append.mp h with h | h
  · exact wsL_law0_r10_in w h
  rcases List.mem_append.mp h with h | h
  · exact wsL_law0_r11_in w h
  rcases List.mem_append.mp h with h | h
  · exact wsL_law0_r12_in w h
  rcases List.mem_append.mp h with h | h
  · exact wsL_law0_r13_in w h
  rcases List.mem_append.mp h with h | h
  · exact wsL_law0_r14_in w h
  rcases List.mem_append.mp h with h | h
  · exact wsL_law0_r15_in w h
  rcases List.mem_append.mp h with h | h
  · exact wsL_law0_r16_in w h
  rcases List.mem_append.mp h with h | h
  · exact wsL_law0_r17_in w h
  rcases List.mem_append.mp h with h | h
  · exact wsL_law0_r18_in w h
  rcases List.mem_append.mp h with h | h
  · exact wsL_law0_r19_in w h
  rcases List.mem_append.mp h with h | h
  · exact wsL_law0_r20_in w h
  rcases List.mem_append.mp h with h | h
  · exact wsL_law0_r21_in w h
  rcases List.mem_append.mp h with h | h
  · exact wsL_law0_r22_in w h
  rcases List.mem_append.mp h with h | h
  · exact wsL_law0_r23_in w h
  rcases List.mem_append.mp h with h | h
  · exact wsL_law0_r24_in w h
  rcases List.mem_append.mp h with h | h
  · exact wsL_law0_r25_in w h
  rcases List.mem_append.mp h with h | h
  · exact wsL_law0_r26_in w h
  rcases List.mem_append.mp h with h | h
  · exact wsL_law0_r27_in w h
  rcases List.mem_append.mp h with h | h
  · exact wsL_law0_r28_in w h
  rcases List.mem_append.mp h with h | h
  · exact wsL_law0_r29_in w h
  exact wsL_law0_r30_in w h
theorem wsL_law_in0 : ∀ w ∈ wsL_law0, w ∈ lw_tbl := by
  intro w h
  unfold wsL_law0 at h
  rcases List.mem_append.mp h with h | h
  rotate_left
  · exact absurd h List.not_mem_nil
  rcases List.mem_append.mp h with h | h
  rotate_left
  · exact tblX2 w h
  rcases List.mem_append.mp h with h | h
  rotate_left
  · exact tblX4 w h
  rcases List.mem_append.mp h with h | h
  rotate_left
  · exact tblX0 w h
  rcases List.mem_append.mp h with h | h
  rotate_left
  · exact tblX3 w h
  rcases List.mem_append.mp h with h | h
  rotate_left
  · exact tblX1 w h
  rcases List.mem_append.mp h with h | h
  rotate_left
  · exact tblX5 w h
  rcases List.mem_append.mp h with h | h
  rotate_left
  · exact tblX7 w h
  rcases List.mem_append.mp h with h | h
  rotate_left
  · exact tblX6 w h
  exact wsL_law_inr w h
theorem wsL_law_x0 : ∀ w ∈ (vx_atS RX6 33 "java/lang/IllegalArgumentException" ["java/lang/RuntimeException", "java/lang/Exception"]).filter goodWord, w ∈ lw_tbl := by decide +kernel
theorem wsL_law_x1 : ∀ w ∈ (vx_atS RX6 153 "java/lang/IllegalStateException" ["java/lang/RuntimeException", "java/lang/Exception"]).filter goodWord, w ∈ lw_tbl := by decide +kernel
theorem wsL_law_x2 : ∀ w ∈ (vx_atS RX6 208 "java/lang/IndexOutOfBoundsException" ["java/lang/RuntimeException", "java/lang/Exception"]).filter goodWord, w ∈ lw_tbl := by decide +kernel
theorem wsL_law_in : ∀ w ∈ wsL_law, w ∈ lw_tbl := fun w h => (List.mem_append.mp h).elim (fun h => (List.mem_append.mp h).elim (fun h => (List.mem_append.mp h).elim (fun h => wsL_law_in0 w h) (fun h => wsL_law_x0 w h)) (fun h => wsL_law_x1 w h)) (fun h => wsL_law_x2 w h)
theorem inlX0 : ∀ w ∈ wsX00, w ∈ wsL_law := fun _ h => List.mem_append_left _ (List.mem_append_left _ (List.mem_append_left _ (List.mem_append_left _ (List.mem_append_left _ (List.mem_append_left _ (List.mem_append_right _ h))))))
theorem inX0 : ∀ w ∈ wsX00, w ∈ lw_tbl := fun w h => wsL_law_in w (inlX0 w h)
theorem inlX1 : ∀ w ∈ wsX10, w ∈ wsL_law := fun _ h => List.mem_append_left _ (List.mem_append_left _ (List.mem_append_left _ (List.mem_append_left _ (List.mem_append_left _ (List.mem_append_left _ (List.mem_append_left _ (List.mem_append_left _ (List.mem_append_right _ h))))))))
theorem inX1 : ∀ w ∈ wsX10, w ∈ lw_tbl := fun w h => wsL_law_in w (inlX1 w h)
theorem inlX2 : ∀ w ∈ wsX20, w ∈ wsL_law := fun _ h => List.mem_append_left _ (List.mem_append_left _ (List.mem_append_left _ (List.mem_append_left _ (List.mem_append_right _ h))))
theorem inX2 : ∀ w ∈ wsX20, w ∈ lw_tbl := fun w h => wsL_law_in w (inlX2 w h)
theorem inlX3 : ∀ w ∈ wsX30, w ∈ wsL_law := fun _ h => List.mem_append_left _ (List.mem_append_left _ (List.mem_append_left _ (List.mem_append_left _ (List.mem_append_left _ (List.mem_append_left _ (List.mem_append_left _ (List.mem_append_right _ h)))))))
theorem inX3 : ∀ w ∈ wsX30, w ∈ lw_tbl := fun w h => wsL_law_in w (inlX3 w h)
theorem inlX4 : ∀ w ∈ wsX40, w ∈ wsL_law := fun _ h => List.mem_append_left _ (List.mem_append_left _ (List.mem_append_left _ (List.mem_append_left _ (List.mem_append_left _ (List.mem_append_right _ h)))))
theorem inX4 : ∀ w ∈ wsX40, w ∈ lw_tbl := fun w h => wsL_law_in w (inlX4 w h)
theorem inlX5 : ∀ w ∈ wsX50, w ∈ wsL_law := fun _ h => List.mem_append_left _ (List.mem_append_left _ (List.mem_append_left _ (List.mem_append_left _ (List.mem_append_left _ (List.mem_append_left _ (List.mem_append_left _ (List.mem_append_left _ (List.mem_append_left _ (List.mem_append_right _ h)))))))))
theorem inX5 : ∀ w ∈ wsX50, w ∈ lw_tbl := fun w h => wsL_law_in w (inlX5 w h)
theorem inlX6 : ∀ w ∈ wsX60, w ∈ wsL_law := fun _ h => List.mem_append_left _ (List.mem_append_left _ (List.mem_append_left _ (List.mem_append_left _ (List.mem_append_left _ (List.mem_append_left _ (List.mem_append_left _ (List.mem_append_left _ (List.mem_append_left _ (List.mem_append_left _ (List.mem_append_left _ (List.mem_append_right _ h)))))))))))
theorem inX6 : ∀ w ∈ wsX60, w ∈ lw_tbl := fun w h => wsL_law_in w (inlX6 w h)
theorem inlX7 : ∀ w ∈ wsX70, w ∈ wsL_law := fun _ h => List.mem_append_left _ (List.mem_append_left _ (List.mem_append_left _ (List.mem_append_left _ (List.mem_append_left _ (List.mem_append_left _ (List.mem_append_left _ (List.mem_append_left _ (List.mem_append_left _ (List.mem_append_left _ (List.mem_append_right _ h))))))))))
theorem inX7 : ∀ w ∈ wsX70, w ∈ lw_tbl := fun w h => wsL_law_in w (inlX7 w h)
theorem inJ9 : ∀ w ∈ wsJ90, w ∈ lw_tbl := by decide +kernel
theorem inJ0 : ∀ w ∈ wsJ00, w ∈ lw_tbl := by decide +kernel
theorem inJ10 : ∀ w ∈ wsJ100, w ∈ lw_tbl := by decide +kernel
theorem dX0_init_0 : decode cX0_init 0 = .ok (.aload_n 0, 1) := by decide +kernel
theorem dX0_init_1 : decode cX0_init 1 = .ok (.invokespecial 3, 3) := by decide +kernel
theorem dX0_init_4 : decode cX0_init 4 = .ok (.aload_n 0, 1) := by decide +kernel
theorem dX0_init_5 : decode cX0_init 5 = .ok (.iconst 0, 1) := by decide +kernel
theorem dX0_init_6 : decode cX0_init 6 = .ok (.putfield 9, 3) := by decide +kernel
theorem dX0_init_9 : decode cX0_init 9 = .ok (.aload_n 0, 1) := by decide +kernel
theorem dX0_init_10 : decode cX0_init 10 = .ok (.iconst 0, 1) := by decide +kernel
end
section
theorem dX0_init_11 : decode cX0_init 11 = .ok (.putfield 15, 3) := by decide +kernel
theorem dX0_init_14 : decode cX0_init 14 = .ok (.aload_n 0, 1) := by decide +kernel
theorem dX0_init_15 : decode cX0_init 15 = .ok (.sipush 1000, 3) := by decide +kernel
theorem dX0_init_18 : decode cX0_init 18 = .ok (.putfield 18, 3) := by decide +kernel
theorem dX0_init_21 : decode cX0_init 21 = .ok (.aload_n 0, 1) := by decide +kernel
theorem dX0_init_22 : decode cX0_init 22 = .ok (.sipush 3000, 3) := by decide +kernel
theorem dX0_init_25 : decode cX0_init 25 = .ok (.putfield 21, 3) := by decide +kernel
theorem dX0_init_28 : decode cX0_init 28 = .ok (.aload_n 0, 1) := by decide +kernel
theorem dX0_init_29 : decode cX0_init 29 = .ok (.bipush 10, 2) := by decide +kernel
theorem dX0_init_31 : decode cX0_init 31 = .ok (.putfield 24, 3) := by decide +kernel
theorem dX0_init_34 : decode cX0_init 34 = .ok (.aload_n 0, 1) := by decide +kernel
theorem dX0_init_35 : decode cX0_init 35 = .ok (.iconst 0, 1) := by decide +kernel
theorem dX0_init_36 : decode cX0_init 36 = .ok (.putfield 27, 3) := by decide +kernel
theorem dX0_init_39 : decode cX0_init 39 = .ok (.aload_n 0, 1) := by decide +kernel
theorem dX0_init_40 : decode cX0_init 40 = .ok (.sipush 207, 3) := by decide +kernel
theorem dX0_init_43 : decode cX0_init 43 = .ok (.putfield 30, 3) := by decide +kernel
theorem dX0_init_46 : decode cX0_init 46 = .ok (.aload_n 0, 1) := by decide +kernel
theorem dX0_init_47 : decode cX0_init 47 = .ok (.sipush 253, 3) := by decide +kernel
theorem dX0_init_50 : decode cX0_init 50 = .ok (.putfield 33, 3) := by decide +kernel
theorem dX0_init_53 : decode cX0_init 53 = .ok (.aload_n 0, 1) := by decide +kernel
theorem dX0_init_54 : decode cX0_init 54 = .ok (.ldc 36, 2) := by decide +kernel
theorem dX0_init_56 : decode cX0_init 56 = .ok (.putfield 37, 3) := by decide +kernel
theorem dX0_init_59 : decode cX0_init 59 = .ok (.aload_n 0, 1) := by decide +kernel
theorem dX0_init_60 : decode cX0_init 60 = .ok (.ldc 40, 2) := by decide +kernel
theorem dX0_init_62 : decode cX0_init 62 = .ok (.putfield 41, 3) := by decide +kernel
theorem dX0_init_65 : decode cX0_init 65 = .ok (.aload_n 0, 1) := by decide +kernel
theorem dX0_init_66 : decode cX0_init 66 = .ok (.iconst 0, 1) := by decide +kernel
theorem dX0_init_67 : decode cX0_init 67 = .ok (.putfield 44, 3) := by decide +kernel
theorem dX0_init_70 : decode cX0_init 70 = .ok (.aload_n 0, 1) := by decide +kernel
theorem dX0_init_71 : decode cX0_init 71 = .ok (.iconst 0, 1) := by decide +kernel
theorem dX0_init_72 : decode cX0_init 72 = .ok (.putfield 47, 3) := by decide +kernel
theorem dX0_init_75 : decode cX0_init 75 = .ok (.aload_n 0, 1) := by decide +kernel
theorem dX0_init_76 : decode cX0_init 76 = .ok (.lconst 0, 1) := by decide +kernel
theorem dX0_init_77 : decode cX0_init 77 = .ok (.putfield 50, 3) := by decide +kernel
theorem dX0_init_80 : decode cX0_init 80 = .ok (.aload_n 0, 1) := by decide +kernel
theorem dX0_init_81 : decode cX0_init 81 = .ok (.iconst 0, 1) := by decide +kernel
theorem dX0_init_82 : decode cX0_init 82 = .ok (.putfield 54, 3) := by decide +kernel
theorem dX0_init_85 : decode cX0_init 85 = .ok (.return_, 1) := by decide +kernel
theorem dX0_leaveStop_0 : decode cX0_leaveStop 0 = .ok (.aload_n 0, 1) := by decide +kernel
theorem dX0_leaveStop_1 : decode cX0_leaveStop 1 = .ok (.getfield 9, 3) := by decide +kernel
theorem dX0_leaveStop_4 : decode cX0_leaveStop 4 = .ok (.iconst 2, 1) := by decide +kernel
theorem dX0_leaveStop_5 : decode cX0_leaveStop 5 = .ok (.if_icmp .eq 5, 3) := by decide +kernel
theorem dX0_leaveStop_8 : decode cX0_leaveStop 8 = .ok (.iconst 0, 1) := by decide +kernel
theorem dX0_leaveStop_9 : decode cX0_leaveStop 9 = .ok (.ireturn, 1) := by decide +kernel
theorem dX0_leaveStop_10 : decode cX0_leaveStop 10 = .ok (.aload_n 0, 1) := by decide +kernel
theorem dX0_leaveStop_11 : decode cX0_leaveStop 11 = .ok (.iconst 0, 1) := by decide +kernel
theorem dX0_leaveStop_12 : decode cX0_leaveStop 12 = .ok (.putfield 9, 3) := by decide +kernel
theorem dX0_leaveStop_15 : decode cX0_leaveStop 15 = .ok (.aload_n 0, 1) := by decide +kernel
theorem dX0_leaveStop_16 : decode cX0_leaveStop 16 = .ok (.iconst 0, 1) := by decide +kernel
theorem dX0_leaveStop_17 : decode cX0_leaveStop 17 = .ok (.putfield 27, 3) := by decide +kernel
theorem dX0_leaveStop_20 : decode cX0_leaveStop 20 = .ok (.iconst 1, 1) := by decide +kernel
theorem dX0_leaveStop_21 : decode cX0_leaveStop 21 = .ok (.ireturn, 1) := by decide +kernel
theorem dX0_drifted_0 : decode cX0_drifted 0 = .ok (.iload_n 1, 1) := by decide +kernel
theorem dX0_drifted_1 : decode cX0_drifted 1 = .ok (.aload_n 0, 1) := by decide +kernel
theorem dX0_drifted_2 : decode cX0_drifted 2 = .ok (.getfield 44, 3) := by decide +kernel
theorem dX0_drifted_5 : decode cX0_drifted 5 = .ok (.iadd, 1) := by decide +kernel
theorem dX0_drifted_6 : decode cX0_drifted 6 = .ok (.iload_n 1, 1) := by decide +kernel
theorem dX0_drifted_7 : decode cX0_drifted 7 = .ok (.ldc 57, 2) := by decide +kernel
theorem dX0_drifted_9 : decode cX0_drifted 9 = .ok (.isub, 1) := by decide +kernel
theorem dX0_drifted_10 : decode cX0_drifted 10 = .ok (.aload_n 0, 1) := by decide +kernel
theorem dX0_drifted_11 : decode cX0_drifted 11 = .ok (.getfield 47, 3) := by decide +kernel
theorem dX0_drifted_14 : decode cX0_drifted 14 = .ok (.imul, 1) := by decide +kernel
theorem dX0_drifted_15 : decode cX0_drifted 15 = .ok (.bipush 100, 2) := by decide +kernel
theorem dX0_drifted_17 : decode cX0_drifted 17 = .ok (.idiv, 1) := by decide +kernel
theorem dX0_drifted_18 : decode cX0_drifted 18 = .ok (.iadd, 1) := by decide +kernel
theorem dX0_drifted_19 : decode cX0_drifted 19 = .ok (.ireturn, 1) := by decide +kernel
set_option maxRecDepth 20000 in
theorem ggX0_admits_X6_outside : GoodIn wsX0_admits wsX6_outside := goodIn_r _ [7] (by decide +kernel) (by decide +kernel)
set_option maxRecDepth 20000 in
theorem gX0_admits_X6_outside_n58 : GoodIn wsX0_admits (wsX6_outside) := ggX0_admits_X6_outside
theorem dX0_admits_0 : decode cX0_admits 0 = .ok (.iload_n 1, 1) := by decide +kernel
theorem dX0_admits_1 : decode cX0_admits 1 = .ok (.aload_n 0, 1) := by decide +kernel
theorem dX0_admits_2 : decode cX0_admits 2 = .ok (.getfield 30, 3) := by decide +kernel
theorem dX0_admits_5 : decode cX0_admits 5 = .ok (.aload_n 0, 1) := by decide +kernel
theorem dX0_admits_6 : decode cX0_admits 6 = .ok (.getfield 33, 3) := by decide +kernel
theorem dX0_admits_9 : decode cX0_admits 9 = .ok (.invokestatic 58, 3) := by decide +kernel
theorem dX0_admits_12 : decode cX0_admits 12 = .ok (.ifCond .ne 22, 3) := by decide +kernel
theorem dX0_admits_15 : decode cX0_admits 15 = .ok (.iload_n 2, 1) := by decide +kernel
theorem dX0_admits_16 : decode cX0_admits 16 = .ok (.aload_n 0, 1) := by decide +kernel
theorem dX0_admits_17 : decode cX0_admits 17 = .ok (.getfield 37, 3) := by decide +kernel
theorem dX0_admits_20 : decode cX0_admits 20 = .ok (.aload_n 0, 1) := by decide +kernel
theorem dX0_admits_21 : decode cX0_admits 21 = .ok (.getfield 41, 3) := by decide +kernel
theorem dX0_admits_24 : decode cX0_admits 24 = .ok (.invokestatic 58, 3) := by decide +kernel
theorem dX0_admits_27 : decode cX0_admits 27 = .ok (.ifCond .ne 7, 3) := by decide +kernel
theorem dX0_admits_30 : decode cX0_admits 30 = .ok (.iconst 1, 1) := by decide +kernel
theorem dX0_admits_31 : decode cX0_admits 31 = .ok (.goto 4, 3) := by decide +kernel
theorem dX0_admits_34 : decode cX0_admits 34 = .ok (.iconst 0, 1) := by decide +kernel
theorem dX0_admits_35 : decode cX0_admits 35 = .ok (.ireturn, 1) := by decide +kernel
theorem dX0_raisePower_0 : decode cX0_raisePower 0 = .ok (.aload_n 0, 1) := by decide +kernel
theorem dX0_raisePower_1 : decode cX0_raisePower 1 = .ok (.aload_n 0, 1) := by decide +kernel
theorem dX0_raisePower_2 : decode cX0_raisePower 2 = .ok (.getfield 15, 3) := by decide +kernel
theorem dX0_raisePower_5 : decode cX0_raisePower 5 = .ok (.aload_n 0, 1) := by decide +kernel
theorem dX0_raisePower_6 : decode cX0_raisePower 6 = .ok (.getfield 24, 3) := by decide +kernel
theorem dX0_raisePower_9 : decode cX0_raisePower 9 = .ok (.iadd, 1) := by decide +kernel
theorem dX0_raisePower_10 : decode cX0_raisePower 10 = .ok (.aload_n 0, 1) := by decide +kernel
theorem dX0_raisePower_11 : decode cX0_raisePower 11 = .ok (.getfield 18, 3) := by decide +kernel
theorem dX0_raisePower_14 : decode cX0_raisePower 14 = .ok (.invokestatic 62, 3) := by decide +kernel
theorem dX0_raisePower_17 : decode cX0_raisePower 17 = .ok (.putfield 15, 3) := by decide +kernel
theorem dX0_raisePower_20 : decode cX0_raisePower 20 = .ok (.return_, 1) := by decide +kernel
theorem dX0_account_0 : decode cX0_account 0 = .ok (.aload_n 0, 1) := by decide +kernel
theorem dX0_account_1 : decode cX0_account 1 = .ok (.dup, 1) := by decide +kernel
theorem dX0_account_2 : decode cX0_account 2 = .ok (.getfield 50, 3) := by decide +kernel
theorem dX0_account_5 : decode cX0_account 5 = .ok (.aload_n 0, 1) := by decide +kernel
theorem dX0_account_6 : decode cX0_account 6 = .ok (.getfield 15, 3) := by decide +kernel
theorem dX0_account_9 : decode cX0_account 9 = .ok (.i2l, 1) := by decide +kernel
theorem dX0_account_10 : decode cX0_account 10 = .ok (.ladd, 1) := by decide +kernel
theorem dX0_account_11 : decode cX0_account 11 = .ok (.putfield 50, 3) := by decide +kernel
theorem dX0_account_14 : decode cX0_account 14 = .ok (.aload_n 0, 1) := by decide +kernel
theorem dX0_account_15 : decode cX0_account 15 = .ok (.getfield 9, 3) := by decide +kernel
theorem dX0_account_18 : decode cX0_account 18 = .ok (.iconst 1, 1) := by decide +kernel
theorem dX0_account_19 : decode cX0_account 19 = .ok (.if_icmp .ne 13, 3) := by decide +kernel
theorem dX0_account_22 : decode cX0_account 22 = .ok (.aload_n 0, 1) := by decide +kernel
theorem dX0_account_23 : decode cX0_account 23 = .ok (.dup, 1) := by decide +kernel
theorem dX0_account_24 : decode cX0_account 24 = .ok (.getfield 54, 3) := by decide +kernel
theorem dX0_account_27 : decode cX0_account 27 = .ok (.iconst 1, 1) := by decide +kernel
theorem dX0_account_28 : decode cX0_account 28 = .ok (.iadd, 1) := by decide +kernel
theorem dX0_account_29 : decode cX0_account 29 = .ok (.putfield 54, 3) := by decide +kernel
theorem dX0_account_32 : decode cX0_account 32 = .ok (.return_, 1) := by decide +kernel
theorem dX0_takeFrom_0 : decode cX0_takeFrom 0 = .ok (.aload_n 0, 1) := by decide +kernel
theorem dX0_takeFrom_1 : decode cX0_takeFrom 1 = .ok (.aload_n 1, 1) := by decide +kernel
theorem dX0_takeFrom_2 : decode cX0_takeFrom 2 = .ok (.getfield 9, 3) := by decide +kernel
theorem dX0_takeFrom_5 : decode cX0_takeFrom 5 = .ok (.putfield 9, 3) := by decide +kernel
theorem dX0_takeFrom_8 : decode cX0_takeFrom 8 = .ok (.aload_n 0, 1) := by decide +kernel
theorem dX0_takeFrom_9 : decode cX0_takeFrom 9 = .ok (.aload_n 1, 1) := by decide +kernel
theorem dX0_takeFrom_10 : decode cX0_takeFrom 10 = .ok (.getfield 15, 3) := by decide +kernel
theorem dX0_takeFrom_13 : decode cX0_takeFrom 13 = .ok (.putfield 15, 3) := by decide +kernel
theorem dX0_takeFrom_16 : decode cX0_takeFrom 16 = .ok (.aload_n 0, 1) := by decide +kernel
theorem dX0_takeFrom_17 : decode cX0_takeFrom 17 = .ok (.aload_n 1, 1) := by decide +kernel
theorem dX0_takeFrom_18 : decode cX0_takeFrom 18 = .ok (.getfield 18, 3) := by decide +kernel
theorem dX0_takeFrom_21 : decode cX0_takeFrom 21 = .ok (.putfield 18, 3) := by decide +kernel
theorem dX0_takeFrom_24 : decode cX0_takeFrom 24 = .ok (.aload_n 0, 1) := by decide +kernel
theorem dX0_takeFrom_25 : decode cX0_takeFrom 25 = .ok (.aload_n 1, 1) := by decide +kernel
theorem dX0_takeFrom_26 : decode cX0_takeFrom 26 = .ok (.getfield 21, 3) := by decide +kernel
theorem dX0_takeFrom_29 : decode cX0_takeFrom 29 = .ok (.putfield 21, 3) := by decide +kernel
theorem dX0_takeFrom_32 : decode cX0_takeFrom 32 = .ok (.aload_n 0, 1) := by decide +kernel
theorem dX0_takeFrom_33 : decode cX0_takeFrom 33 = .ok (.aload_n 1, 1) := by decide +kernel
theorem dX0_takeFrom_34 : decode cX0_takeFrom 34 = .ok (.getfield 24, 3) := by decide +kernel
theorem dX0_takeFrom_37 : decode cX0_takeFrom 37 = .ok (.putfield 24, 3) := by decide +kernel
theorem dX0_takeFrom_40 : decode cX0_takeFrom 40 = .ok (.aload_n 0, 1) := by decide +kernel
theorem dX0_takeFrom_41 : decode cX0_takeFrom 41 = .ok (.aload_n 1, 1) := by decide +kernel
theorem dX0_takeFrom_42 : decode cX0_takeFrom 42 = .ok (.getfield 27, 3) := by decide +kernel
theorem dX0_takeFrom_45 : decode cX0_takeFrom 45 = .ok (.putfield 27, 3) := by decide +kernel
theorem dX0_takeFrom_48 : decode cX0_takeFrom 48 = .ok (.aload_n 0, 1) := by decide +kernel
theorem dX0_takeFrom_49 : decode cX0_takeFrom 49 = .ok (.aload_n 1, 1) := by decide +kernel
theorem dX0_takeFrom_50 : decode cX0_takeFrom 50 = .ok (.getfield 30, 3) := by decide +kernel
theorem dX0_takeFrom_53 : decode cX0_takeFrom 53 = .ok (.putfield 30, 3) := by decide +kernel
theorem dX0_takeFrom_56 : decode cX0_takeFrom 56 = .ok (.aload_n 0, 1) := by decide +kernel
theorem dX0_takeFrom_57 : decode cX0_takeFrom 57 = .ok (.aload_n 1, 1) := by decide +kernel
theorem dX0_takeFrom_58 : decode cX0_takeFrom 58 = .ok (.getfield 33, 3) := by decide +kernel
theorem dX0_takeFrom_61 : decode cX0_takeFrom 61 = .ok (.putfield 33, 3) := by decide +kernel
theorem dX0_takeFrom_64 : decode cX0_takeFrom 64 = .ok (.aload_n 0, 1) := by decide +kernel
theorem dX0_takeFrom_65 : decode cX0_takeFrom 65 = .ok (.aload_n 1, 1) := by decide +kernel
theorem dX0_takeFrom_66 : decode cX0_takeFrom 66 = .ok (.getfield 37, 3) := by decide +kernel
theorem dX0_takeFrom_69 : decode cX0_takeFrom 69 = .ok (.putfield 37, 3) := by decide +kernel
theorem dX0_takeFrom_72 : decode cX0_takeFrom 72 = .ok (.aload_n 0, 1) := by decide +kernel
theorem dX0_takeFrom_73 : decode cX0_takeFrom 73 = .ok (.aload_n 1, 1) := by decide +kernel
theorem dX0_takeFrom_74 : decode cX0_takeFrom 74 = .ok (.getfield 41, 3) := by decide +kernel
theorem dX0_takeFrom_77 : decode cX0_takeFrom 77 = .ok (.putfield 41, 3) := by decide +kernel
theorem dX0_takeFrom_80 : decode cX0_takeFrom 80 = .ok (.aload_n 0, 1) := by decide +kernel
theorem dX0_takeFrom_81 : decode cX0_takeFrom 81 = .ok (.aload_n 1, 1) := by decide +kernel
theorem dX0_takeFrom_82 : decode cX0_takeFrom 82 = .ok (.getfield 44, 3) := by decide +kernel
theorem dX0_takeFrom_85 : decode cX0_takeFrom 85 = .ok (.putfield 44, 3) := by decide +kernel
theorem dX0_takeFrom_88 : decode cX0_takeFrom 88 = .ok (.aload_n 0, 1) := by decide +kernel
theorem dX0_takeFrom_89 : decode cX0_takeFrom 89 = .ok (.aload_n 1, 1) := by decide +kernel
theorem dX0_takeFrom_90 : decode cX0_takeFrom 90 = .ok (.getfield 47, 3) := by decide +kernel
theorem dX0_takeFrom_93 : decode cX0_takeFrom 93 = .ok (.putfield 47, 3) := by decide +kernel
theorem dX0_takeFrom_96 : decode cX0_takeFrom 96 = .ok (.aload_n 0, 1) := by decide +kernel
theorem dX0_takeFrom_97 : decode cX0_takeFrom 97 = .ok (.aload_n 1, 1) := by decide +kernel
theorem dX0_takeFrom_98 : decode cX0_takeFrom 98 = .ok (.getfield 50, 3) := by decide +kernel
theorem dX0_takeFrom_101 : decode cX0_takeFrom 101 = .ok (.putfield 50, 3) := by decide +kernel
theorem dX0_takeFrom_104 : decode cX0_takeFrom 104 = .ok (.aload_n 0, 1) := by decide +kernel
theorem dX0_takeFrom_105 : decode cX0_takeFrom 105 = .ok (.aload_n 1, 1) := by decide +kernel
theorem dX0_takeFrom_106 : decode cX0_takeFrom 106 = .ok (.getfield 54, 3) := by decide +kernel
theorem dX0_takeFrom_109 : decode cX0_takeFrom 109 = .ok (.putfield 54, 3) := by decide +kernel
theorem dX0_takeFrom_112 : decode cX0_takeFrom 112 = .ok (.return_, 1) := by decide +kernel
theorem dX1_init_0 : decode cX1_init 0 = .ok (.aload_n 0, 1) := by decide +kernel
theorem dX1_init_1 : decode cX1_init 1 = .ok (.invokespecial 3, 3) := by decide +kernel
theorem dX1_init_4 : decode cX1_init 4 = .ok (.aload_n 0, 1) := by decide +kernel
theorem dX1_init_5 : decode cX1_init 5 = .ok (.sipush 230, 3) := by decide +kernel
theorem dX1_init_8 : decode cX1_init 8 = .ok (.putfield 9, 3) := by decide +kernel
theorem dX1_init_11 : decode cX1_init 11 = .ok (.aload_n 0, 1) := by decide +kernel
theorem dX1_init_12 : decode cX1_init 12 = .ok (.ldc 15, 2) := by decide +kernel
theorem dX1_init_14 : decode cX1_init 14 = .ok (.putfield 16, 3) := by decide +kernel
theorem dX1_init_17 : decode cX1_init 17 = .ok (.aload_n 0, 1) := by decide +kernel
theorem dX1_init_18 : decode cX1_init 18 = .ok (.iconst 0, 1) := by decide +kernel
theorem dX1_init_19 : decode cX1_init 19 = .ok (.putfield 19, 3) := by decide +kernel
theorem dX1_init_22 : decode cX1_init 22 = .ok (.aload_n 0, 1) := by decide +kernel
theorem dX1_init_23 : decode cX1_init 23 = .ok (.iconst 1, 1) := by decide +kernel
theorem dX1_init_24 : decode cX1_init 24 = .ok (.putfield 22, 3) := by decide +kernel
theorem dX1_init_27 : decode cX1_init 27 = .ok (.aload_n 0, 1) := by decide +kernel
theorem dX1_init_28 : decode cX1_init 28 = .ok (.sipush 230, 3) := by decide +kernel
theorem dX1_init_31 : decode cX1_init 31 = .ok (.putfield 26, 3) := by decide +kernel
theorem dX1_init_34 : decode cX1_init 34 = .ok (.aload_n 0, 1) := by decide +kernel
theorem dX1_init_35 : decode cX1_init 35 = .ok (.ldc 15, 2) := by decide +kernel
theorem dX1_init_37 : decode cX1_init 37 = .ok (.putfield 29, 3) := by decide +kernel
theorem dX1_init_40 : decode cX1_init 40 = .ok (.aload_n 0, 1) := by decide +kernel
theorem dX1_init_41 : decode cX1_init 41 = .ok (.sipush 1000, 3) := by decide +kernel
theorem dX1_init_44 : decode cX1_init 44 = .ok (.putfield 32, 3) := by decide +kernel
theorem dX1_init_47 : decode cX1_init 47 = .ok (.aload_n 0, 1) := by decide +kernel
theorem dX1_init_48 : decode cX1_init 48 = .ok (.ldc 15, 2) := by decide +kernel
theorem dX1_init_50 : decode cX1_init 50 = .ok (.putfield 35, 3) := by decide +kernel
theorem dX1_init_53 : decode cX1_init 53 = .ok (.aload_n 0, 1) := by decide +kernel
theorem dX1_init_54 : decode cX1_init 54 = .ok (.bipush 10, 2) := by decide +kernel
theorem dX1_init_56 : decode cX1_init 56 = .ok (.putfield 38, 3) := by decide +kernel
theorem dX1_init_59 : decode cX1_init 59 = .ok (.return_, 1) := by decide +kernel
theorem dX1_becomeIsland_0 : decode cX1_becomeIsland 0 = .ok (.aload_n 0, 1) := by decide +kernel
theorem dX1_becomeIsland_1 : decode cX1_becomeIsland 1 = .ok (.iload_n 1, 1) := by decide +kernel
theorem dX1_becomeIsland_2 : decode cX1_becomeIsland 2 = .ok (.putfield 32, 3) := by decide +kernel
theorem dX1_becomeIsland_5 : decode cX1_becomeIsland 5 = .ok (.aload_n 0, 1) := by decide +kernel
theorem dX1_becomeIsland_6 : decode cX1_becomeIsland 6 = .ok (.iload_n 2, 1) := by decide +kernel
theorem dX1_becomeIsland_7 : decode cX1_becomeIsland 7 = .ok (.putfield 35, 3) := by decide +kernel
theorem dX1_becomeIsland_10 : decode cX1_becomeIsland 10 = .ok (.aload_n 0, 1) := by decide +kernel
theorem dX1_becomeIsland_11 : decode cX1_becomeIsland 11 = .ok (.iload_n 3, 1) := by decide +kernel
theorem dX1_becomeIsland_12 : decode cX1_becomeIsland 12 = .ok (.putfield 38, 3) := by decide +kernel
theorem dX1_becomeIsland_15 : decode cX1_becomeIsland 15 = .ok (.return_, 1) := by decide +kernel
set_option maxRecDepth 20000 in
theorem ggX1_turn_J9_floorMod_7cf53 : GoodIn wsX1_turn wsJ9_floorMod_7cf53 := goodIn_r _ [6] (by decide +kernel) (by decide +kernel)
set_option maxRecDepth 20000 in
theorem gX1_turn_J9_floorMod_7cf53 : GoodIn wsX1_turn (va_wsS RX1 42 yJ9_floorMod_7cf53 wsJ9_floorMod_7cf53) := goodIn_app (goodIn_of _ (by decide +kernel)) ggX1_turn_J9_floorMod_7cf53
theorem dX1_turn_0 : decode cX1_turn 0 = .ok (.aload_n 0, 1) := by decide +kernel
theorem dX1_turn_1 : decode cX1_turn 1 = .ok (.aload_n 0, 1) := by decide +kernel
theorem dX1_turn_2 : decode cX1_turn 2 = .ok (.getfield 19, 3) := by decide +kernel
theorem dX1_turn_5 : decode cX1_turn 5 = .ok (.iload_n 1, 1) := by decide +kernel
theorem dX1_turn_6 : decode cX1_turn 6 = .ok (.iadd, 1) := by decide +kernel
theorem dX1_turn_7 : decode cX1_turn 7 = .ok (.ldc 41, 2) := by decide +kernel
theorem dX1_turn_9 : decode cX1_turn 9 = .ok (.invokestatic 42, 3) := by decide +kernel
theorem dX1_turn_12 : decode cX1_turn 12 = .ok (.putfield 19, 3) := by decide +kernel
theorem dX1_turn_15 : decode cX1_turn 15 = .ok (.return_, 1) := by decide +kernel
set_option maxRecDepth 20000 in
theorem ggX1_settle_X1_islandVoltage : GoodIn wsX1_settle wsX1_islandVoltage := goodIn_r _ [10, 11, 12, 13, 14, 15, 31, 32, 33, 34, 35, 36, 37, 38, 39] (by decide +kernel) (by decide +kernel)
set_option maxRecDepth 20000 in
theorem gX1_settle_X1_islandVoltage : GoodIn wsX1_settle (wsV RX1 48 RX1 yX1_islandVoltage wsX1_islandVoltage) := goodIn_app (goodIn_of _ (by decide +kernel)) ggX1_settle_X1_islandVoltage
set_option maxRecDepth 20000 in
theorem ggX1_settle_X1_islandFrequency : GoodIn wsX1_settle wsX1_islandFrequency := goodIn_r _ [19, 5, 20, 21, 22, 23, 24, 25, 26, 27, 13, 14, 15, 28, 29, 30, 31, 32, 33, 34, 35, 36, 37, 38, 39] (by decide +kernel) (by decide +kernel)
set_option maxRecDepth 20000 in
theorem gX1_settle_X1_islandFrequency : GoodIn wsX1_settle (wsV RX1 52 RX1 yX1_islandFrequency wsX1_islandFrequency) := goodIn_app (goodIn_of _ (by decide +kernel)) ggX1_settle_X1_islandFrequency
theorem dX1_settle_0 : decode cX1_settle 0 = .ok (.aload_n 0, 1) := by decide +kernel
theorem dX1_settle_1 : decode cX1_settle 1 = .ok (.getfield 22, 3) := by decide +kernel
theorem dX1_settle_4 : decode cX1_settle 4 = .ok (.ifCond .eq 22, 3) := by decide +kernel
theorem dX1_settle_7 : decode cX1_settle 7 = .ok (.aload_n 0, 1) := by decide +kernel
theorem dX1_settle_8 : decode cX1_settle 8 = .ok (.aload_n 0, 1) := by decide +kernel
theorem dX1_settle_9 : decode cX1_settle 9 = .ok (.getfield 26, 3) := by decide +kernel
theorem dX1_settle_12 : decode cX1_settle 12 = .ok (.putfield 9, 3) := by decide +kernel
theorem dX1_settle_15 : decode cX1_settle 15 = .ok (.aload_n 0, 1) := by decide +kernel
theorem dX1_settle_16 : decode cX1_settle 16 = .ok (.aload_n 0, 1) := by decide +kernel
theorem dX1_settle_17 : decode cX1_settle 17 = .ok (.getfield 29, 3) := by decide +kernel
theorem dX1_settle_20 : decode cX1_settle 20 = .ok (.putfield 16, 3) := by decide +kernel
theorem dX1_settle_23 : decode cX1_settle 23 = .ok (.goto 33, 3) := by decide +kernel
theorem dX1_settle_26 : decode cX1_settle 26 = .ok (.iload_n 1, 1) := by decide +kernel
theorem dX1_settle_27 : decode cX1_settle 27 = .ok (.ifCond .le 24, 3) := by decide +kernel
theorem dX1_settle_30 : decode cX1_settle 30 = .ok (.aload_n 0, 1) := by decide +kernel
theorem dX1_settle_31 : decode cX1_settle 31 = .ok (.aload_n 0, 1) := by decide +kernel
theorem dX1_settle_32 : decode cX1_settle 32 = .ok (.iload_n 1, 1) := by decide +kernel
theorem dX1_settle_33 : decode cX1_settle 33 = .ok (.invokevirtual 48, 3) := by decide +kernel
theorem dX1_settle_36 : decode cX1_settle 36 = .ok (.putfield 9, 3) := by decide +kernel
theorem dX1_settle_39 : decode cX1_settle 39 = .ok (.aload_n 0, 1) := by decide +kernel
theorem dX1_settle_40 : decode cX1_settle 40 = .ok (.aload_n 0, 1) := by decide +kernel
theorem dX1_settle_41 : decode cX1_settle 41 = .ok (.iload_n 2, 1) := by decide +kernel
theorem dX1_settle_42 : decode cX1_settle 42 = .ok (.invokevirtual 52, 3) := by decide +kernel
theorem dX1_settle_45 : decode cX1_settle 45 = .ok (.putfield 16, 3) := by decide +kernel
theorem dX1_settle_48 : decode cX1_settle 48 = .ok (.goto 8, 3) := by decide +kernel
theorem dX1_settle_51 : decode cX1_settle 51 = .ok (.aload_n 0, 1) := by decide +kernel
theorem dX1_settle_52 : decode cX1_settle 52 = .ok (.iconst 0, 1) := by decide +kernel
theorem dX1_settle_53 : decode cX1_settle 53 = .ok (.putfield 9, 3) := by decide +kernel
theorem dX1_settle_56 : decode cX1_settle 56 = .ok (.return_, 1) := by decide +kernel
theorem dX1_islandVoltage_0 : decode cX1_islandVoltage 0 = .ok (.aload_n 0, 1) := by decide +kernel
theorem dX1_islandVoltage_1 : decode cX1_islandVoltage 1 = .ok (.getfield 32, 3) := by decide +kernel
theorem dX1_islandVoltage_4 : decode cX1_islandVoltage 4 = .ok (.ifCond .le 22, 3) := by decide +kernel
theorem dX1_islandVoltage_7 : decode cX1_islandVoltage 7 = .ok (.sipush 230, 3) := by decide +kernel
theorem dX1_islandVoltage_10 : decode cX1_islandVoltage 10 = .ok (.iload_n 1, 1) := by decide +kernel
theorem dX1_islandVoltage_11 : decode cX1_islandVoltage 11 = .ok (.imul, 1) := by decide +kernel
theorem dX1_islandVoltage_12 : decode cX1_islandVoltage 12 = .ok (.aload_n 0, 1) := by decide +kernel
theorem dX1_islandVoltage_13 : decode cX1_islandVoltage 13 = .ok (.getfield 32, 3) := by decide +kernel
theorem dX1_islandVoltage_16 : decode cX1_islandVoltage 16 = .ok (.idiv, 1) := by decide +kernel
theorem dX1_islandVoltage_17 : decode cX1_islandVoltage 17 = .ok (.sipush 400, 3) := by decide +kernel
theorem dX1_islandVoltage_20 : decode cX1_islandVoltage 20 = .ok (.invokestatic 55, 3) := by decide +kernel
theorem dX1_islandVoltage_23 : decode cX1_islandVoltage 23 = .ok (.goto 6, 3) := by decide +kernel
theorem dX1_islandVoltage_26 : decode cX1_islandVoltage 26 = .ok (.sipush 400, 3) := by decide +kernel
theorem dX1_islandVoltage_29 : decode cX1_islandVoltage 29 = .ok (.ireturn, 1) := by decide +kernel
set_option maxRecDepth 20000 in
theorem ggX1_islandFrequency_X6_limitedFrequency : GoodIn wsX1_islandFrequency wsX6_limitedFrequency := goodIn_r _ [6, 7, 8, 9, 10, 11, 12, 13, 14, 15] (by decide +kernel) (by decide +kernel)
set_option maxRecDepth 20000 in
theorem gX1_islandFrequency_X6_limitedFrequency_n58 : GoodIn wsX1_islandFrequency (wsX6_limitedFrequency) := ggX1_islandFrequency_X6_limitedFrequency
theorem dX1_islandFrequency_0 : decode cX1_islandFrequency 0 = .ok (.iload_n 1, 1) := by decide +kernel
theorem dX1_islandFrequency_1 : decode cX1_islandFrequency 1 = .ok (.aload_n 0, 1) := by decide +kernel
theorem dX1_islandFrequency_2 : decode cX1_islandFrequency 2 = .ok (.getfield 16, 3) := by decide +kernel
theorem dX1_islandFrequency_5 : decode cX1_islandFrequency 5 = .ok (.isub, 1) := by decide +kernel
theorem dX1_islandFrequency_6 : decode cX1_islandFrequency 6 = .ok (.iconst 4, 1) := by decide +kernel
theorem dX1_islandFrequency_7 : decode cX1_islandFrequency 7 = .ok (.idiv, 1) := by decide +kernel
theorem dX1_islandFrequency_8 : decode cX1_islandFrequency 8 = .ok (.istore_n 2, 1) := by decide +kernel
theorem dX1_islandFrequency_9 : decode cX1_islandFrequency 9 = .ok (.aload_n 0, 1) := by decide +kernel
theorem dX1_islandFrequency_10 : decode cX1_islandFrequency 10 = .ok (.getfield 35, 3) := by decide +kernel
theorem dX1_islandFrequency_13 : decode cX1_islandFrequency 13 = .ok (.aload_n 0, 1) := by decide +kernel
theorem dX1_islandFrequency_14 : decode cX1_islandFrequency 14 = .ok (.getfield 16, 3) := by decide +kernel
theorem dX1_islandFrequency_17 : decode cX1_islandFrequency 17 = .ok (.isub, 1) := by decide +kernel
theorem dX1_islandFrequency_18 : decode cX1_islandFrequency 18 = .ok (.aload_n 0, 1) := by decide +kernel
theorem dX1_islandFrequency_19 : decode cX1_islandFrequency 19 = .ok (.getfield 38, 3) := by decide +kernel
theorem dX1_islandFrequency_22 : decode cX1_islandFrequency 22 = .ok (.imul, 1) := by decide +kernel
theorem dX1_islandFrequency_23 : decode cX1_islandFrequency 23 = .ok (.bipush 100, 2) := by decide +kernel
theorem dX1_islandFrequency_25 : decode cX1_islandFrequency 25 = .ok (.idiv, 1) := by decide +kernel
theorem dX1_islandFrequency_26 : decode cX1_islandFrequency 26 = .ok (.istore_n 3, 1) := by decide +kernel
theorem dX1_islandFrequency_27 : decode cX1_islandFrequency 27 = .ok (.aload_n 0, 1) := by decide +kernel
theorem dX1_islandFrequency_28 : decode cX1_islandFrequency 28 = .ok (.getfield 16, 3) := by decide +kernel
theorem dX1_islandFrequency_31 : decode cX1_islandFrequency 31 = .ok (.iload_n 2, 1) := by decide +kernel
theorem dX1_islandFrequency_32 : decode cX1_islandFrequency 32 = .ok (.iadd, 1) := by decide +kernel
theorem dX1_islandFrequency_33 : decode cX1_islandFrequency 33 = .ok (.iload_n 3, 1) := by decide +kernel
theorem dX1_islandFrequency_34 : decode cX1_islandFrequency 34 = .ok (.iadd, 1) := by decide +kernel
theorem dX1_islandFrequency_35 : decode cX1_islandFrequency 35 = .ok (.invokestatic 58, 3) := by decide +kernel
theorem dX1_islandFrequency_38 : decode cX1_islandFrequency 38 = .ok (.ireturn, 1) := by decide +kernel
set_option maxRecDepth 20000 in
theorem ggX1_takeFrom_X1_becomeIsland : GoodIn wsX1_takeFrom wsX1_becomeIsland := goodIn_r _ [14, 7, 8, 9, 15, 16, 17, 18, 19, 20, 21, 22, 23] (by decide +kernel) (by decide +kernel)
set_option maxRecDepth 20000 in
theorem gX1_takeFrom_X1_becomeIsland : GoodIn wsX1_takeFrom (wsV RX1 61 RX1 yX1_becomeIsland wsX1_becomeIsland) := goodIn_app (goodIn_of _ (by decide +kernel)) ggX1_takeFrom_X1_becomeIsland
theorem dX1_takeFrom_0 : decode cX1_takeFrom 0 = .ok (.aload_n 0, 1) := by decide +kernel
theorem dX1_takeFrom_1 : decode cX1_takeFrom 1 = .ok (.aload_n 1, 1) := by decide +kernel
theorem dX1_takeFrom_2 : decode cX1_takeFrom 2 = .ok (.getfield 9, 3) := by decide +kernel
theorem dX1_takeFrom_5 : decode cX1_takeFrom 5 = .ok (.putfield 9, 3) := by decide +kernel
theorem dX1_takeFrom_8 : decode cX1_takeFrom 8 = .ok (.aload_n 0, 1) := by decide +kernel
theorem dX1_takeFrom_9 : decode cX1_takeFrom 9 = .ok (.aload_n 1, 1) := by decide +kernel
theorem dX1_takeFrom_10 : decode cX1_takeFrom 10 = .ok (.getfield 16, 3) := by decide +kernel
theorem dX1_takeFrom_13 : decode cX1_takeFrom 13 = .ok (.putfield 16, 3) := by decide +kernel
theorem dX1_takeFrom_16 : decode cX1_takeFrom 16 = .ok (.aload_n 0, 1) := by decide +kernel
theorem dX1_takeFrom_17 : decode cX1_takeFrom 17 = .ok (.aload_n 1, 1) := by decide +kernel
theorem dX1_takeFrom_18 : decode cX1_takeFrom 18 = .ok (.getfield 19, 3) := by decide +kernel
theorem dX1_takeFrom_21 : decode cX1_takeFrom 21 = .ok (.putfield 19, 3) := by decide +kernel
theorem dX1_takeFrom_24 : decode cX1_takeFrom 24 = .ok (.aload_n 0, 1) := by decide +kernel
theorem dX1_takeFrom_25 : decode cX1_takeFrom 25 = .ok (.aload_n 1, 1) := by decide +kernel
theorem dX1_takeFrom_26 : decode cX1_takeFrom 26 = .ok (.getfield 22, 3) := by decide +kernel
theorem dX1_takeFrom_29 : decode cX1_takeFrom 29 = .ok (.putfield 22, 3) := by decide +kernel
theorem dX1_takeFrom_32 : decode cX1_takeFrom 32 = .ok (.aload_n 0, 1) := by decide +kernel
theorem dX1_takeFrom_33 : decode cX1_takeFrom 33 = .ok (.aload_n 1, 1) := by decide +kernel
theorem dX1_takeFrom_34 : decode cX1_takeFrom 34 = .ok (.getfield 26, 3) := by decide +kernel
theorem dX1_takeFrom_37 : decode cX1_takeFrom 37 = .ok (.putfield 26, 3) := by decide +kernel
theorem dX1_takeFrom_40 : decode cX1_takeFrom 40 = .ok (.aload_n 0, 1) := by decide +kernel
theorem dX1_takeFrom_41 : decode cX1_takeFrom 41 = .ok (.aload_n 1, 1) := by decide +kernel
theorem dX1_takeFrom_42 : decode cX1_takeFrom 42 = .ok (.getfield 29, 3) := by decide +kernel
theorem dX1_takeFrom_45 : decode cX1_takeFrom 45 = .ok (.putfield 29, 3) := by decide +kernel
theorem dX1_takeFrom_48 : decode cX1_takeFrom 48 = .ok (.aload_n 0, 1) := by decide +kernel
theorem dX1_takeFrom_49 : decode cX1_takeFrom 49 = .ok (.aload_n 1, 1) := by decide +kernel
theorem dX1_takeFrom_50 : decode cX1_takeFrom 50 = .ok (.getfield 32, 3) := by decide +kernel
theorem dX1_takeFrom_53 : decode cX1_takeFrom 53 = .ok (.aload_n 1, 1) := by decide +kernel
theorem dX1_takeFrom_54 : decode cX1_takeFrom 54 = .ok (.getfield 35, 3) := by decide +kernel
theorem dX1_takeFrom_57 : decode cX1_takeFrom 57 = .ok (.aload_n 1, 1) := by decide +kernel
theorem dX1_takeFrom_58 : decode cX1_takeFrom 58 = .ok (.getfield 38, 3) := by decide +kernel
theorem dX1_takeFrom_61 : decode cX1_takeFrom 61 = .ok (.invokevirtual 61, 3) := by decide +kernel
theorem dX1_takeFrom_64 : decode cX1_takeFrom 64 = .ok (.return_, 1) := by decide +kernel
theorem dX2_init_0 : decode cX2_init 0 = .ok (.aload_n 0, 1) := by decide +kernel
theorem dX2_init_1 : decode cX2_init 1 = .ok (.invokespecial 3, 3) := by decide +kernel
theorem dX2_init_4 : decode cX2_init 4 = .ok (.aload_n 0, 1) := by decide +kernel
theorem dX2_init_5 : decode cX2_init 5 = .ok (.iconst 0, 1) := by decide +kernel
theorem dX2_init_6 : decode cX2_init 6 = .ok (.putfield 9, 3) := by decide +kernel
theorem dX2_init_9 : decode cX2_init 9 = .ok (.aload_n 0, 1) := by decide +kernel
theorem dX2_init_10 : decode cX2_init 10 = .ok (.bipush 40, 2) := by decide +kernel
theorem dX2_init_12 : decode cX2_init 12 = .ok (.newarray .int, 2) := by decide +kernel
theorem dX2_init_14 : decode cX2_init 14 = .ok (.putfield 15, 3) := by decide +kernel
theorem dX2_init_17 : decode cX2_init 17 = .ok (.aload_n 0, 1) := by decide +kernel
theorem dX2_init_18 : decode cX2_init 18 = .ok (.bipush 40, 2) := by decide +kernel
theorem dX2_init_20 : decode cX2_init 20 = .ok (.newarray .int, 2) := by decide +kernel
theorem dX2_init_22 : decode cX2_init 22 = .ok (.putfield 19, 3) := by decide +kernel
theorem dX2_init_25 : decode cX2_init 25 = .ok (.return_, 1) := by decide +kernel
set_option maxRecDepth 20000 in
theorem ggX2_append_J9_floorMod_7cf53 : GoodIn wsX2_append wsJ9_floorMod_7cf53 := goodIn_r _ [7] (by decide +kernel) (by decide +kernel)
set_option maxRecDepth 20000 in
theorem gX2_append_J9_floorMod_7cf53 : GoodIn wsX2_append (va_wsS RX2 22 yJ9_floorMod_7cf53 wsJ9_floorMod_7cf53) := goodIn_app (goodIn_of _ (by decide +kernel)) ggX2_append_J9_floorMod_7cf53
theorem dX2_append_0 : decode cX2_append 0 = .ok (.aload_n 0, 1) := by decide +kernel
theorem dX2_append_1 : decode cX2_append 1 = .ok (.getfield 9, 3) := by decide +kernel
theorem dX2_append_4 : decode cX2_append 4 = .ok (.bipush 40, 2) := by decide +kernel
theorem dX2_append_6 : decode cX2_append 6 = .ok (.invokestatic 22, 3) := by decide +kernel
theorem dX2_append_9 : decode cX2_append 9 = .ok (.istore_n 3, 1) := by decide +kernel
theorem dX2_append_10 : decode cX2_append 10 = .ok (.aload_n 0, 1) := by decide +kernel
theorem dX2_append_11 : decode cX2_append 11 = .ok (.getfield 15, 3) := by decide +kernel
theorem dX2_append_14 : decode cX2_append 14 = .ok (.iload_n 3, 1) := by decide +kernel
theorem dX2_append_15 : decode cX2_append 15 = .ok (.iload_n 1, 1) := by decide +kernel
theorem dX2_append_16 : decode cX2_append 16 = .ok (.iastore, 1) := by decide +kernel
theorem dX2_append_17 : decode cX2_append 17 = .ok (.aload_n 0, 1) := by decide +kernel
theorem dX2_append_18 : decode cX2_append 18 = .ok (.getfield 19, 3) := by decide +kernel
theorem dX2_append_21 : decode cX2_append 21 = .ok (.iload_n 3, 1) := by decide +kernel
theorem dX2_append_22 : decode cX2_append 22 = .ok (.iload_n 2, 1) := by decide +kernel
theorem dX2_append_23 : decode cX2_append 23 = .ok (.iastore, 1) := by decide +kernel
theorem dX2_append_24 : decode cX2_append 24 = .ok (.aload_n 0, 1) := by decide +kernel
theorem dX2_append_25 : decode cX2_append 25 = .ok (.dup, 1) := by decide +kernel
theorem dX2_append_26 : decode cX2_append 26 = .ok (.getfield 9, 3) := by decide +kernel
theorem dX2_append_29 : decode cX2_append 29 = .ok (.iconst 1, 1) := by decide +kernel
theorem dX2_append_30 : decode cX2_append 30 = .ok (.iadd, 1) := by decide +kernel
theorem dX2_append_31 : decode cX2_append 31 = .ok (.putfield 9, 3) := by decide +kernel
theorem dX2_append_34 : decode cX2_append 34 = .ok (.return_, 1) := by decide +kernel
set_option maxRecDepth 20000 in
theorem ggX2_timeOf_X2_isKept : GoodIn wsX2_timeOf wsX2_isKept := goodIn_r _ [6, 7, 12, 13, 14] (by decide +kernel) (by decide +kernel)
set_option maxRecDepth 20000 in
theorem gX2_timeOf_X2_isKept : GoodIn wsX2_timeOf (wsV RX2 28 RX2 yX2_isKept wsX2_isKept) := goodIn_app (goodIn_of _ (by decide +kernel)) ggX2_timeOf_X2_isKept
set_option maxRecDepth 20000 in
theorem ggX2_timeOf_J9_floorMod_7cf53 : GoodIn wsX2_timeOf wsJ9_floorMod_7cf53 := goodIn_r _ [11] (by decide +kernel) (by decide +kernel)
set_option maxRecDepth 20000 in
theorem gX2_timeOf_J9_floorMod_7cf53 : GoodIn wsX2_timeOf (va_wsS RX2 22 yJ9_floorMod_7cf53 wsJ9_floorMod_7cf53) := goodIn_app (goodIn_of _ (by decide +kernel)) ggX2_timeOf_J9_floorMod_7cf53
theorem dX2_timeOf_0 : decode cX2_timeOf 0 = .ok (.aload_n 0, 1) := by decide +kernel
theorem dX2_timeOf_1 : decode cX2_timeOf 1 = .ok (.iload_n 1, 1) := by decide +kernel
theorem dX2_timeOf_2 : decode cX2_timeOf 2 = .ok (.invokevirtual 28, 3) := by decide +kernel
theorem dX2_timeOf_5 : decode cX2_timeOf 5 = .ok (.ifCond .eq 17, 3) := by decide +kernel
theorem dX2_timeOf_8 : decode cX2_timeOf 8 = .ok (.aload_n 0, 1) := by decide +kernel
theorem dX2_timeOf_9 : decode cX2_timeOf 9 = .ok (.getfield 15, 3) := by decide +kernel
theorem dX2_timeOf_12 : decode cX2_timeOf 12 = .ok (.iload_n 1, 1) := by decide +kernel
theorem dX2_timeOf_13 : decode cX2_timeOf 13 = .ok (.bipush 40, 2) := by decide +kernel
theorem dX2_timeOf_15 : decode cX2_timeOf 15 = .ok (.invokestatic 22, 3) := by decide +kernel
theorem dX2_timeOf_18 : decode cX2_timeOf 18 = .ok (.iaload, 1) := by decide +kernel
theorem dX2_timeOf_19 : decode cX2_timeOf 19 = .ok (.goto 4, 3) := by decide +kernel
theorem dX2_timeOf_22 : decode cX2_timeOf 22 = .ok (.iconst (-1), 1) := by decide +kernel
theorem dX2_timeOf_23 : decode cX2_timeOf 23 = .ok (.ireturn, 1) := by decide +kernel
set_option maxRecDepth 20000 in
theorem ggX2_causeOf_X2_isKept : GoodIn wsX2_causeOf wsX2_isKept := goodIn_r _ [6, 7, 12, 13, 14] (by decide +kernel) (by decide +kernel)
set_option maxRecDepth 20000 in
theorem gX2_causeOf_X2_isKept : GoodIn wsX2_causeOf (wsV RX2 28 RX2 yX2_isKept wsX2_isKept) := goodIn_app (goodIn_of _ (by decide +kernel)) ggX2_causeOf_X2_isKept
set_option maxRecDepth 20000 in
theorem ggX2_causeOf_J9_floorMod_7cf53 : GoodIn wsX2_causeOf wsJ9_floorMod_7cf53 := goodIn_r _ [11] (by decide +kernel) (by decide +kernel)
set_option maxRecDepth 20000 in
theorem gX2_causeOf_J9_floorMod_7cf53 : GoodIn wsX2_causeOf (va_wsS RX2 22 yJ9_floorMod_7cf53 wsJ9_floorMod_7cf53) := goodIn_app (goodIn_of _ (by decide +kernel)) ggX2_causeOf_J9_floorMod_7cf53
theorem dX2_causeOf_0 : decode cX2_causeOf 0 = .ok (.aload_n 0, 1) := by decide +kernel
theorem dX2_causeOf_1 : decode cX2_causeOf 1 = .ok (.iload_n 1, 1) := by decide +kernel
theorem dX2_causeOf_2 : decode cX2_causeOf 2 = .ok (.invokevirtual 28, 3) := by decide +kernel
theorem dX2_causeOf_5 : decode cX2_causeOf 5 = .ok (.ifCond .eq 17, 3) := by decide +kernel
theorem dX2_causeOf_8 : decode cX2_causeOf 8 = .ok (.aload_n 0, 1) := by decide +kernel
theorem dX2_causeOf_9 : decode cX2_causeOf 9 = .ok (.getfield 19, 3) := by decide +kernel
theorem dX2_causeOf_12 : decode cX2_causeOf 12 = .ok (.iload_n 1, 1) := by decide +kernel
theorem dX2_causeOf_13 : decode cX2_causeOf 13 = .ok (.bipush 40, 2) := by decide +kernel
theorem dX2_causeOf_15 : decode cX2_causeOf 15 = .ok (.invokestatic 22, 3) := by decide +kernel
theorem dX2_causeOf_18 : decode cX2_causeOf 18 = .ok (.iaload, 1) := by decide +kernel
theorem dX2_causeOf_19 : decode cX2_causeOf 19 = .ok (.goto 4, 3) := by decide +kernel
theorem dX2_causeOf_22 : decode cX2_causeOf 22 = .ok (.iconst (-1), 1) := by decide +kernel
theorem dX2_causeOf_23 : decode cX2_causeOf 23 = .ok (.ireturn, 1) := by decide +kernel
theorem dX2_isKept_0 : decode cX2_isKept 0 = .ok (.iload_n 1, 1) := by decide +kernel
theorem dX2_isKept_1 : decode cX2_isKept 1 = .ok (.ifCond .lt 26, 3) := by decide +kernel
theorem dX2_isKept_4 : decode cX2_isKept 4 = .ok (.iload_n 1, 1) := by decide +kernel
theorem dX2_isKept_5 : decode cX2_isKept 5 = .ok (.aload_n 0, 1) := by decide +kernel
theorem dX2_isKept_6 : decode cX2_isKept 6 = .ok (.getfield 9, 3) := by decide +kernel
theorem dX2_isKept_9 : decode cX2_isKept 9 = .ok (.if_icmp .ge 18, 3) := by decide +kernel
theorem dX2_isKept_12 : decode cX2_isKept 12 = .ok (.iload_n 1, 1) := by decide +kernel
theorem dX2_isKept_13 : decode cX2_isKept 13 = .ok (.aload_n 0, 1) := by decide +kernel
theorem dX2_isKept_14 : decode cX2_isKept 14 = .ok (.getfield 9, 3) := by decide +kernel
theorem dX2_isKept_17 : decode cX2_isKept 17 = .ok (.bipush 40, 2) := by decide +kernel
theorem dX2_isKept_19 : decode cX2_isKept 19 = .ok (.isub, 1) := by decide +kernel
theorem dX2_isKept_20 : decode cX2_isKept 20 = .ok (.if_icmp .lt 7, 3) := by decide +kernel
theorem dX2_isKept_23 : decode cX2_isKept 23 = .ok (.iconst 1, 1) := by decide +kernel
theorem dX2_isKept_24 : decode cX2_isKept 24 = .ok (.goto 4, 3) := by decide +kernel
theorem dX2_isKept_27 : decode cX2_isKept 27 = .ok (.iconst 0, 1) := by decide +kernel
theorem dX2_isKept_28 : decode cX2_isKept 28 = .ok (.ireturn, 1) := by decide +kernel
set_option maxRecDepth 20000 in
theorem ggX2_takeFrom_X6_copyRow : GoodIn wsX2_takeFrom wsX6_copyRow := goodIn_r _ [6, 7, 8, 9, 10, 11, 12, 13, 14] (by decide +kernel) (by decide +kernel)
set_option maxRecDepth 20000 in
theorem gX2_takeFrom_X6_copyRow_n32 : GoodIn wsX2_takeFrom (wsX6_copyRow) := ggX2_takeFrom_X6_copyRow
theorem dX2_takeFrom_0 : decode cX2_takeFrom 0 = .ok (.aload_n 0, 1) := by decide +kernel
theorem dX2_takeFrom_1 : decode cX2_takeFrom 1 = .ok (.aload_n 1, 1) := by decide +kernel
theorem dX2_takeFrom_2 : decode cX2_takeFrom 2 = .ok (.getfield 9, 3) := by decide +kernel
theorem dX2_takeFrom_5 : decode cX2_takeFrom 5 = .ok (.putfield 9, 3) := by decide +kernel
theorem dX2_takeFrom_8 : decode cX2_takeFrom 8 = .ok (.aload_n 1, 1) := by decide +kernel
theorem dX2_takeFrom_9 : decode cX2_takeFrom 9 = .ok (.getfield 15, 3) := by decide +kernel
theorem dX2_takeFrom_12 : decode cX2_takeFrom 12 = .ok (.aload_n 0, 1) := by decide +kernel
theorem dX2_takeFrom_13 : decode cX2_takeFrom 13 = .ok (.getfield 15, 3) := by decide +kernel
theorem dX2_takeFrom_16 : decode cX2_takeFrom 16 = .ok (.invokestatic 32, 3) := by decide +kernel
theorem dX2_takeFrom_19 : decode cX2_takeFrom 19 = .ok (.aload_n 1, 1) := by decide +kernel
theorem dX2_takeFrom_20 : decode cX2_takeFrom 20 = .ok (.getfield 19, 3) := by decide +kernel
theorem dX2_takeFrom_23 : decode cX2_takeFrom 23 = .ok (.aload_n 0, 1) := by decide +kernel
theorem dX2_takeFrom_24 : decode cX2_takeFrom 24 = .ok (.getfield 19, 3) := by decide +kernel
theorem dX2_takeFrom_27 : decode cX2_takeFrom 27 = .ok (.invokestatic 32, 3) := by decide +kernel
theorem dX2_takeFrom_30 : decode cX2_takeFrom 30 = .ok (.return_, 1) := by decide +kernel
theorem dX3_init_0 : decode cX3_init 0 = .ok (.aload_n 0, 1) := by decide +kernel
theorem dX3_init_1 : decode cX3_init 1 = .ok (.invokespecial 3, 3) := by decide +kernel
theorem dX3_init_4 : decode cX3_init 4 = .ok (.aload_n 0, 1) := by decide +kernel
theorem dX3_init_5 : decode cX3_init 5 = .ok (.iconst 0, 1) := by decide +kernel
theorem dX3_init_6 : decode cX3_init 6 = .ok (.putfield 9, 3) := by decide +kernel
theorem dX3_init_9 : decode cX3_init 9 = .ok (.aload_n 0, 1) := by decide +kernel
theorem dX3_init_10 : decode cX3_init 10 = .ok (.ldc 15, 2) := by decide +kernel
theorem dX3_init_12 : decode cX3_init 12 = .ok (.putfield 16, 3) := by decide +kernel
theorem dX3_init_15 : decode cX3_init 15 = .ok (.aload_n 0, 1) := by decide +kernel
theorem dX3_init_16 : decode cX3_init 16 = .ok (.iconst 0, 1) := by decide +kernel
theorem dX3_init_17 : decode cX3_init 17 = .ok (.putfield 19, 3) := by decide +kernel
theorem dX3_init_20 : decode cX3_init 20 = .ok (.aload_n 0, 1) := by decide +kernel
theorem dX3_init_21 : decode cX3_init 21 = .ok (.sipush 200, 3) := by decide +kernel
theorem dX3_init_24 : decode cX3_init 24 = .ok (.putfield 22, 3) := by decide +kernel
theorem dX3_init_27 : decode cX3_init 27 = .ok (.aload_n 0, 1) := by decide +kernel
theorem dX3_init_28 : decode cX3_init 28 = .ok (.bipush 20, 2) := by decide +kernel
theorem dX3_init_30 : decode cX3_init 30 = .ok (.putfield 25, 3) := by decide +kernel
theorem dX3_init_33 : decode cX3_init 33 = .ok (.aload_n 0, 1) := by decide +kernel
theorem dX3_init_34 : decode cX3_init 34 = .ok (.sipush 5000, 3) := by decide +kernel
theorem dX3_init_37 : decode cX3_init 37 = .ok (.putfield 28, 3) := by decide +kernel
theorem dX3_init_40 : decode cX3_init 40 = .ok (.aload_n 0, 1) := by decide +kernel
theorem dX3_init_41 : decode cX3_init 41 = .ok (.bipush 100, 2) := by decide +kernel
theorem dX3_init_43 : decode cX3_init 43 = .ok (.putfield 31, 3) := by decide +kernel
theorem dX3_init_46 : decode cX3_init 46 = .ok (.aload_n 0, 1) := by decide +kernel
theorem dX3_init_47 : decode cX3_init 47 = .ok (.iconst 0, 1) := by decide +kernel
theorem dX3_init_48 : decode cX3_init 48 = .ok (.putfield 34, 3) := by decide +kernel
theorem dX3_init_51 : decode cX3_init 51 = .ok (.aload_n 0, 1) := by decide +kernel
theorem dX3_init_52 : decode cX3_init 52 = .ok (.bipush 20, 2) := by decide +kernel
theorem dX3_init_54 : decode cX3_init 54 = .ok (.newarray .int, 2) := by decide +kernel
theorem dX3_init_56 : decode cX3_init 56 = .ok (.putfield 37, 3) := by decide +kernel
theorem dX3_init_59 : decode cX3_init 59 = .ok (.iconst 0, 1) := by decide +kernel
theorem dX3_init_60 : decode cX3_init 60 = .ok (.istore_n 1, 1) := by decide +kernel
theorem dX3_init_61 : decode cX3_init 61 = .ok (.iload_n 1, 1) := by decide +kernel
theorem dX3_init_62 : decode cX3_init 62 = .ok (.bipush 20, 2) := by decide +kernel
theorem dX3_init_64 : decode cX3_init 64 = .ok (.if_icmp .ge 17, 3) := by decide +kernel
theorem dX3_init_67 : decode cX3_init 67 = .ok (.aload_n 0, 1) := by decide +kernel
theorem dX3_init_68 : decode cX3_init 68 = .ok (.getfield 37, 3) := by decide +kernel
theorem dX3_init_71 : decode cX3_init 71 = .ok (.iload_n 1, 1) := by decide +kernel
theorem dX3_init_72 : decode cX3_init 72 = .ok (.ldc 15, 2) := by decide +kernel
theorem dX3_init_74 : decode cX3_init 74 = .ok (.iastore, 1) := by decide +kernel
theorem dX3_init_75 : decode cX3_init 75 = .ok (.iinc 1 1, 3) := by decide +kernel
theorem dX3_init_78 : decode cX3_init 78 = .ok (.goto (-17), 3) := by decide +kernel
theorem dX3_init_81 : decode cX3_init 81 = .ok (.return_, 1) := by decide +kernel
set_option maxRecDepth 20000 in
theorem ggX3_follow_J9_floorMod_7cf53 : GoodIn wsX3_follow wsJ9_floorMod_7cf53 := goodIn_r _ [13] (by decide +kernel) (by decide +kernel)
set_option maxRecDepth 20000 in
theorem gX3_follow_J9_floorMod_7cf53 : GoodIn wsX3_follow (va_wsS RX3 43 yJ9_floorMod_7cf53 wsJ9_floorMod_7cf53) := goodIn_app (goodIn_of _ (by decide +kernel)) ggX3_follow_J9_floorMod_7cf53
set_option maxRecDepth 20000 in
theorem ggX3_follow_X6_limitedFrequency : GoodIn wsX3_follow wsX6_limitedFrequency := goodIn_r _ [16, 17, 18, 19, 20, 21, 22, 23, 24, 25] (by decide +kernel) (by decide +kernel)
set_option maxRecDepth 20000 in
theorem gX3_follow_X6_limitedFrequency_n49 : GoodIn wsX3_follow (wsX6_limitedFrequency) := ggX3_follow_X6_limitedFrequency
set_option maxRecDepth 20000 in
theorem ggX3_follow_X6_outside : GoodIn wsX3_follow wsX6_outside := goodIn_r _ [27] (by decide +kernel) (by decide +kernel)
set_option maxRecDepth 20000 in
theorem gX3_follow_X6_outside_n53 : GoodIn wsX3_follow (wsX6_outside) := ggX3_follow_X6_outside
theorem dX3_follow_0 : decode cX3_follow 0 = .ok (.aload_n 0, 1) := by decide +kernel
theorem dX3_follow_1 : decode cX3_follow 1 = .ok (.getfield 9, 3) := by decide +kernel
theorem dX3_follow_4 : decode cX3_follow 4 = .ok (.aload_n 0, 1) := by decide +kernel
theorem dX3_follow_5 : decode cX3_follow 5 = .ok (.getfield 16, 3) := by decide +kernel
theorem dX3_follow_8 : decode cX3_follow 8 = .ok (.iadd, 1) := by decide +kernel
theorem dX3_follow_9 : decode cX3_follow 9 = .ok (.istore_n 3, 1) := by decide +kernel
theorem dX3_follow_10 : decode cX3_follow 10 = .ok (.iload_n 2, 1) := by decide +kernel
theorem dX3_follow_11 : decode cX3_follow 11 = .ok (.bipush 20, 2) := by decide +kernel
theorem dX3_follow_13 : decode cX3_follow 13 = .ok (.if_icmp .lt 106, 3) := by decide +kernel
theorem dX3_follow_16 : decode cX3_follow 16 = .ok (.aload_n 0, 1) := by decide +kernel
theorem dX3_follow_17 : decode cX3_follow 17 = .ok (.iload_n 1, 1) := by decide +kernel
theorem dX3_follow_18 : decode cX3_follow 18 = .ok (.iload_n 3, 1) := by decide +kernel
theorem dX3_follow_19 : decode cX3_follow 19 = .ok (.isub, 1) := by decide +kernel
theorem dX3_follow_20 : decode cX3_follow 20 = .ok (.ldc 41, 2) := by decide +kernel
theorem dX3_follow_22 : decode cX3_follow 22 = .ok (.iadd, 1) := by decide +kernel
theorem dX3_follow_23 : decode cX3_follow 23 = .ok (.ldc 42, 2) := by decide +kernel
theorem dX3_follow_25 : decode cX3_follow 25 = .ok (.invokestatic 43, 3) := by decide +kernel
theorem dX3_follow_28 : decode cX3_follow 28 = .ok (.ldc 41, 2) := by decide +kernel
theorem dX3_follow_30 : decode cX3_follow 30 = .ok (.isub, 1) := by decide +kernel
theorem dX3_follow_31 : decode cX3_follow 31 = .ok (.putfield 19, 3) := by decide +kernel
theorem dX3_follow_34 : decode cX3_follow 34 = .ok (.aload_n 0, 1) := by decide +kernel
theorem dX3_follow_35 : decode cX3_follow 35 = .ok (.iload_n 3, 1) := by decide +kernel
theorem dX3_follow_36 : decode cX3_follow 36 = .ok (.aload_n 0, 1) := by decide +kernel
theorem dX3_follow_37 : decode cX3_follow 37 = .ok (.getfield 19, 3) := by decide +kernel
theorem dX3_follow_40 : decode cX3_follow 40 = .ok (.aload_n 0, 1) := by decide +kernel
theorem dX3_follow_41 : decode cX3_follow 41 = .ok (.getfield 22, 3) := by decide +kernel
theorem dX3_follow_44 : decode cX3_follow 44 = .ok (.imul, 1) := by decide +kernel
theorem dX3_follow_45 : decode cX3_follow 45 = .ok (.sipush 1000, 3) := by decide +kernel
theorem dX3_follow_48 : decode cX3_follow 48 = .ok (.idiv, 1) := by decide +kernel
theorem dX3_follow_49 : decode cX3_follow 49 = .ok (.iadd, 1) := by decide +kernel
theorem dX3_follow_50 : decode cX3_follow 50 = .ok (.ldc 42, 2) := by decide +kernel
theorem dX3_follow_52 : decode cX3_follow 52 = .ok (.invokestatic 43, 3) := by decide +kernel
theorem dX3_follow_55 : decode cX3_follow 55 = .ok (.putfield 9, 3) := by decide +kernel
theorem dX3_follow_58 : decode cX3_follow 58 = .ok (.aload_n 0, 1) := by decide +kernel
theorem dX3_follow_59 : decode cX3_follow 59 = .ok (.aload_n 0, 1) := by decide +kernel
theorem dX3_follow_60 : decode cX3_follow 60 = .ok (.getfield 16, 3) := by decide +kernel
theorem dX3_follow_63 : decode cX3_follow 63 = .ok (.aload_n 0, 1) := by decide +kernel
theorem dX3_follow_64 : decode cX3_follow 64 = .ok (.getfield 19, 3) := by decide +kernel
theorem dX3_follow_67 : decode cX3_follow 67 = .ok (.aload_n 0, 1) := by decide +kernel
theorem dX3_follow_68 : decode cX3_follow 68 = .ok (.getfield 25, 3) := by decide +kernel
theorem dX3_follow_71 : decode cX3_follow 71 = .ok (.imul, 1) := by decide +kernel
theorem dX3_follow_72 : decode cX3_follow 72 = .ok (.sipush 1000, 3) := by decide +kernel
theorem dX3_follow_75 : decode cX3_follow 75 = .ok (.idiv, 1) := by decide +kernel
theorem dX3_follow_76 : decode cX3_follow 76 = .ok (.iadd, 1) := by decide +kernel
theorem dX3_follow_77 : decode cX3_follow 77 = .ok (.invokestatic 49, 3) := by decide +kernel
theorem dX3_follow_80 : decode cX3_follow 80 = .ok (.putfield 16, 3) := by decide +kernel
theorem dX3_follow_83 : decode cX3_follow 83 = .ok (.aload_n 0, 1) := by decide +kernel
theorem dX3_follow_84 : decode cX3_follow 84 = .ok (.aload_n 0, 1) := by decide +kernel
theorem dX3_follow_85 : decode cX3_follow 85 = .ok (.getfield 19, 3) := by decide +kernel
theorem dX3_follow_88 : decode cX3_follow 88 = .ok (.aload_n 0, 1) := by decide +kernel
theorem dX3_follow_89 : decode cX3_follow 89 = .ok (.getfield 28, 3) := by decide +kernel
theorem dX3_follow_92 : decode cX3_follow 92 = .ok (.ineg, 1) := by decide +kernel
theorem dX3_follow_93 : decode cX3_follow 93 = .ok (.aload_n 0, 1) := by decide +kernel
theorem dX3_follow_94 : decode cX3_follow 94 = .ok (.getfield 28, 3) := by decide +kernel
theorem dX3_follow_97 : decode cX3_follow 97 = .ok (.invokestatic 53, 3) := by decide +kernel
theorem dX3_follow_100 : decode cX3_follow 100 = .ok (.ifCond .eq 7, 3) := by decide +kernel
theorem dX3_follow_103 : decode cX3_follow 103 = .ok (.iconst 0, 1) := by decide +kernel
theorem dX3_follow_104 : decode cX3_follow 104 = .ok (.goto 9, 3) := by decide +kernel
theorem dX3_follow_107 : decode cX3_follow 107 = .ok (.aload_n 0, 1) := by decide +kernel
theorem dX3_follow_108 : decode cX3_follow 108 = .ok (.getfield 34, 3) := by decide +kernel
theorem dX3_follow_111 : decode cX3_follow 111 = .ok (.iconst 1, 1) := by decide +kernel
theorem dX3_follow_112 : decode cX3_follow 112 = .ok (.iadd, 1) := by decide +kernel
theorem dX3_follow_113 : decode cX3_follow 113 = .ok (.putfield 34, 3) := by decide +kernel
theorem dX3_follow_116 : decode cX3_follow 116 = .ok (.goto 23, 3) := by decide +kernel
theorem dX3_follow_119 : decode cX3_follow 119 = .ok (.aload_n 0, 1) := by decide +kernel
theorem dX3_follow_120 : decode cX3_follow 120 = .ok (.iconst 0, 1) := by decide +kernel
theorem dX3_follow_121 : decode cX3_follow 121 = .ok (.putfield 19, 3) := by decide +kernel
theorem dX3_follow_124 : decode cX3_follow 124 = .ok (.aload_n 0, 1) := by decide +kernel
theorem dX3_follow_125 : decode cX3_follow 125 = .ok (.iload_n 3, 1) := by decide +kernel
theorem dX3_follow_126 : decode cX3_follow 126 = .ok (.ldc 42, 2) := by decide +kernel
theorem dX3_follow_128 : decode cX3_follow 128 = .ok (.invokestatic 43, 3) := by decide +kernel
theorem dX3_follow_131 : decode cX3_follow 131 = .ok (.putfield 9, 3) := by decide +kernel
theorem dX3_follow_134 : decode cX3_follow 134 = .ok (.aload_n 0, 1) := by decide +kernel
theorem dX3_follow_135 : decode cX3_follow 135 = .ok (.iconst 0, 1) := by decide +kernel
theorem dX3_follow_136 : decode cX3_follow 136 = .ok (.putfield 34, 3) := by decide +kernel
theorem dX3_follow_139 : decode cX3_follow 139 = .ok (.return_, 1) := by decide +kernel
set_option maxRecDepth 20000 in
theorem ggX3_changeUntil_J9_floorMod_7cf53 : GoodIn wsX3_changeUntil wsJ9_floorMod_7cf53 := goodIn_r _ [6] (by decide +kernel) (by decide +kernel)
set_option maxRecDepth 20000 in
theorem gX3_changeUntil_J9_floorMod_7cf53 : GoodIn wsX3_changeUntil (va_wsS RX3 43 yJ9_floorMod_7cf53 wsJ9_floorMod_7cf53) := goodIn_app (goodIn_of _ (by decide +kernel)) ggX3_changeUntil_J9_floorMod_7cf53
theorem dX3_changeUntil_0 : decode cX3_changeUntil 0 = .ok (.iload_n 1, 1) := by decide +kernel
theorem dX3_changeUntil_1 : decode cX3_changeUntil 1 = .ok (.bipush 20, 2) := by decide +kernel
theorem dX3_changeUntil_3 : decode cX3_changeUntil 3 = .ok (.invokestatic 43, 3) := by decide +kernel
theorem dX3_changeUntil_6 : decode cX3_changeUntil 6 = .ok (.istore_n 2, 1) := by decide +kernel
theorem dX3_changeUntil_7 : decode cX3_changeUntil 7 = .ok (.aload_n 0, 1) := by decide +kernel
theorem dX3_changeUntil_8 : decode cX3_changeUntil 8 = .ok (.getfield 16, 3) := by decide +kernel
theorem dX3_changeUntil_11 : decode cX3_changeUntil 11 = .ok (.aload_n 0, 1) := by decide +kernel
theorem dX3_changeUntil_12 : decode cX3_changeUntil 12 = .ok (.getfield 37, 3) := by decide +kernel
theorem dX3_changeUntil_15 : decode cX3_changeUntil 15 = .ok (.iload_n 2, 1) := by decide +kernel
theorem dX3_changeUntil_16 : decode cX3_changeUntil 16 = .ok (.iaload, 1) := by decide +kernel
theorem dX3_changeUntil_17 : decode cX3_changeUntil 17 = .ok (.isub, 1) := by decide +kernel
theorem dX3_changeUntil_18 : decode cX3_changeUntil 18 = .ok (.istore_n 3, 1) := by decide +kernel
theorem dX3_changeUntil_19 : decode cX3_changeUntil 19 = .ok (.aload_n 0, 1) := by decide +kernel
theorem dX3_changeUntil_20 : decode cX3_changeUntil 20 = .ok (.getfield 37, 3) := by decide +kernel
theorem dX3_changeUntil_23 : decode cX3_changeUntil 23 = .ok (.iload_n 2, 1) := by decide +kernel
theorem dX3_changeUntil_24 : decode cX3_changeUntil 24 = .ok (.aload_n 0, 1) := by decide +kernel
theorem dX3_changeUntil_25 : decode cX3_changeUntil 25 = .ok (.getfield 16, 3) := by decide +kernel
theorem dX3_changeUntil_28 : decode cX3_changeUntil 28 = .ok (.iastore, 1) := by decide +kernel
theorem dX3_changeUntil_29 : decode cX3_changeUntil 29 = .ok (.iload_n 3, 1) := by decide +kernel
theorem dX3_changeUntil_30 : decode cX3_changeUntil 30 = .ok (.ifCond .ge 8, 3) := by decide +kernel
theorem dX3_changeUntil_33 : decode cX3_changeUntil 33 = .ok (.iload_n 3, 1) := by decide +kernel
theorem dX3_changeUntil_34 : decode cX3_changeUntil 34 = .ok (.ineg, 1) := by decide +kernel
theorem dX3_changeUntil_35 : decode cX3_changeUntil 35 = .ok (.goto 4, 3) := by decide +kernel
theorem dX3_changeUntil_38 : decode cX3_changeUntil 38 = .ok (.iload_n 3, 1) := by decide +kernel
theorem dX3_changeUntil_39 : decode cX3_changeUntil 39 = .ok (.ireturn, 1) := by decide +kernel
theorem dX3_holdsLock_0 : decode cX3_holdsLock 0 = .ok (.aload_n 0, 1) := by decide +kernel
theorem dX3_holdsLock_1 : decode cX3_holdsLock 1 = .ok (.getfield 34, 3) := by decide +kernel
theorem dX3_holdsLock_4 : decode cX3_holdsLock 4 = .ok (.aload_n 0, 1) := by decide +kernel
theorem dX3_holdsLock_5 : decode cX3_holdsLock 5 = .ok (.getfield 31, 3) := by decide +kernel
theorem dX3_holdsLock_8 : decode cX3_holdsLock 8 = .ok (.if_icmp .lt 7, 3) := by decide +kernel
theorem dX3_holdsLock_11 : decode cX3_holdsLock 11 = .ok (.iconst 1, 1) := by decide +kernel
theorem dX3_holdsLock_12 : decode cX3_holdsLock 12 = .ok (.goto 4, 3) := by decide +kernel
theorem dX3_holdsLock_15 : decode cX3_holdsLock 15 = .ok (.iconst 0, 1) := by decide +kernel
theorem dX3_holdsLock_16 : decode cX3_holdsLock 16 = .ok (.ireturn, 1) := by decide +kernel
set_option maxRecDepth 20000 in
theorem ggX3_takeFrom_X6_copyRow : GoodIn wsX3_takeFrom wsX6_copyRow := goodIn_r _ [12, 13, 14, 15, 16, 17, 18, 19, 20] (by decide +kernel) (by decide +kernel)
set_option maxRecDepth 20000 in
theorem gX3_takeFrom_X6_copyRow_n57 : GoodIn wsX3_takeFrom (wsX6_copyRow) := ggX3_takeFrom_X6_copyRow
theorem dX3_takeFrom_0 : decode cX3_takeFrom 0 = .ok (.aload_n 0, 1) := by decide +kernel
theorem dX3_takeFrom_1 : decode cX3_takeFrom 1 = .ok (.aload_n 1, 1) := by decide +kernel
theorem dX3_takeFrom_2 : decode cX3_takeFrom 2 = .ok (.getfield 9, 3) := by decide +kernel
theorem dX3_takeFrom_5 : decode cX3_takeFrom 5 = .ok (.putfield 9, 3) := by decide +kernel
theorem dX3_takeFrom_8 : decode cX3_takeFrom 8 = .ok (.aload_n 0, 1) := by decide +kernel
theorem dX3_takeFrom_9 : decode cX3_takeFrom 9 = .ok (.aload_n 1, 1) := by decide +kernel
theorem dX3_takeFrom_10 : decode cX3_takeFrom 10 = .ok (.getfield 16, 3) := by decide +kernel
theorem dX3_takeFrom_13 : decode cX3_takeFrom 13 = .ok (.putfield 16, 3) := by decide +kernel
theorem dX3_takeFrom_16 : decode cX3_takeFrom 16 = .ok (.aload_n 0, 1) := by decide +kernel
theorem dX3_takeFrom_17 : decode cX3_takeFrom 17 = .ok (.aload_n 1, 1) := by decide +kernel
theorem dX3_takeFrom_18 : decode cX3_takeFrom 18 = .ok (.getfield 19, 3) := by decide +kernel
theorem dX3_takeFrom_21 : decode cX3_takeFrom 21 = .ok (.putfield 19, 3) := by decide +kernel
theorem dX3_takeFrom_24 : decode cX3_takeFrom 24 = .ok (.aload_n 0, 1) := by decide +kernel
theorem dX3_takeFrom_25 : decode cX3_takeFrom 25 = .ok (.aload_n 1, 1) := by decide +kernel
theorem dX3_takeFrom_26 : decode cX3_takeFrom 26 = .ok (.getfield 22, 3) := by decide +kernel
theorem dX3_takeFrom_29 : decode cX3_takeFrom 29 = .ok (.putfield 22, 3) := by decide +kernel
theorem dX3_takeFrom_32 : decode cX3_takeFrom 32 = .ok (.aload_n 0, 1) := by decide +kernel
theorem dX3_takeFrom_33 : decode cX3_takeFrom 33 = .ok (.aload_n 1, 1) := by decide +kernel
theorem dX3_takeFrom_34 : decode cX3_takeFrom 34 = .ok (.getfield 25, 3) := by decide +kernel
theorem dX3_takeFrom_37 : decode cX3_takeFrom 37 = .ok (.putfield 25, 3) := by decide +kernel
theorem dX3_takeFrom_40 : decode cX3_takeFrom 40 = .ok (.aload_n 0, 1) := by decide +kernel
theorem dX3_takeFrom_41 : decode cX3_takeFrom 41 = .ok (.aload_n 1, 1) := by decide +kernel
theorem dX3_takeFrom_42 : decode cX3_takeFrom 42 = .ok (.getfield 28, 3) := by decide +kernel
theorem dX3_takeFrom_45 : decode cX3_takeFrom 45 = .ok (.putfield 28, 3) := by decide +kernel
theorem dX3_takeFrom_48 : decode cX3_takeFrom 48 = .ok (.aload_n 0, 1) := by decide +kernel
theorem dX3_takeFrom_49 : decode cX3_takeFrom 49 = .ok (.aload_n 1, 1) := by decide +kernel
theorem dX3_takeFrom_50 : decode cX3_takeFrom 50 = .ok (.getfield 31, 3) := by decide +kernel
theorem dX3_takeFrom_53 : decode cX3_takeFrom 53 = .ok (.putfield 31, 3) := by decide +kernel
theorem dX3_takeFrom_56 : decode cX3_takeFrom 56 = .ok (.aload_n 0, 1) := by decide +kernel
theorem dX3_takeFrom_57 : decode cX3_takeFrom 57 = .ok (.aload_n 1, 1) := by decide +kernel
theorem dX3_takeFrom_58 : decode cX3_takeFrom 58 = .ok (.getfield 34, 3) := by decide +kernel
theorem dX3_takeFrom_61 : decode cX3_takeFrom 61 = .ok (.putfield 34, 3) := by decide +kernel
theorem dX3_takeFrom_64 : decode cX3_takeFrom 64 = .ok (.aload_n 1, 1) := by decide +kernel
theorem dX3_takeFrom_65 : decode cX3_takeFrom 65 = .ok (.getfield 37, 3) := by decide +kernel
theorem dX3_takeFrom_68 : decode cX3_takeFrom 68 = .ok (.aload_n 0, 1) := by decide +kernel
theorem dX3_takeFrom_69 : decode cX3_takeFrom 69 = .ok (.getfield 37, 3) := by decide +kernel
theorem dX3_takeFrom_72 : decode cX3_takeFrom 72 = .ok (.invokestatic 57, 3) := by decide +kernel
theorem dX3_takeFrom_75 : decode cX3_takeFrom 75 = .ok (.return_, 1) := by decide +kernel
theorem dX4_init_0 : decode cX4_init 0 = .ok (.aload_n 0, 1) := by decide +kernel
theorem dX4_init_1 : decode cX4_init 1 = .ok (.invokespecial 3, 3) := by decide +kernel
theorem dX4_init_4 : decode cX4_init 4 = .ok (.aload_n 0, 1) := by decide +kernel
theorem dX4_init_5 : decode cX4_init 5 = .ok (.iconst 0, 1) := by decide +kernel
theorem dX4_init_6 : decode cX4_init 6 = .ok (.putfield 9, 3) := by decide +kernel
theorem dX4_init_9 : decode cX4_init 9 = .ok (.aload_n 0, 1) := by decide +kernel
theorem dX4_init_10 : decode cX4_init 10 = .ok (.bipush 8, 2) := by decide +kernel
theorem dX4_init_12 : decode cX4_init 12 = .ok (.newarray .int, 2) := by decide +kernel
theorem dX4_init_14 : decode cX4_init 14 = .ok (.putfield 15, 3) := by decide +kernel
theorem dX4_init_17 : decode cX4_init 17 = .ok (.aload_n 0, 1) := by decide +kernel
theorem dX4_init_18 : decode cX4_init 18 = .ok (.bipush 8, 2) := by decide +kernel
theorem dX4_init_20 : decode cX4_init 20 = .ok (.newarray .int, 2) := by decide +kernel
theorem dX4_init_22 : decode cX4_init 22 = .ok (.putfield 19, 3) := by decide +kernel
theorem dX4_init_25 : decode cX4_init 25 = .ok (.aload_n 0, 1) := by decide +kernel
theorem dX4_init_26 : decode cX4_init 26 = .ok (.bipush 8, 2) := by decide +kernel
theorem dX4_init_28 : decode cX4_init 28 = .ok (.newarray .int, 2) := by decide +kernel
theorem dX4_init_30 : decode cX4_init 30 = .ok (.putfield 22, 3) := by decide +kernel
theorem dX4_init_33 : decode cX4_init 33 = .ok (.aload_n 0, 1) := by decide +kernel
theorem dX4_init_34 : decode cX4_init 34 = .ok (.bipush 8, 2) := by decide +kernel
theorem dX4_init_36 : decode cX4_init 36 = .ok (.newarray .int, 2) := by decide +kernel
theorem dX4_init_38 : decode cX4_init 38 = .ok (.putfield 25, 3) := by decide +kernel
theorem dX4_init_41 : decode cX4_init 41 = .ok (.return_, 1) := by decide +kernel
set_option maxRecDepth 20000 in
theorem ggX4_append_X6_outside : GoodIn wsX4_append wsX6_outside := goodIn_r _ [8] (by decide +kernel) (by decide +kernel)
set_option maxRecDepth 20000 in
theorem gX4_append_X6_outside_n28 : GoodIn wsX4_append (wsX6_outside) := ggX4_append_X6_outside
theorem dX4_append_0 : decode cX4_append 0 = .ok (.aload_n 0, 1) := by decide +kernel
theorem dX4_append_1 : decode cX4_append 1 = .ok (.getfield 9, 3) := by decide +kernel
theorem dX4_append_4 : decode cX4_append 4 = .ok (.istore 4, 2) := by decide +kernel
theorem dX4_append_6 : decode cX4_append 6 = .ok (.iload 4, 2) := by decide +kernel
theorem dX4_append_8 : decode cX4_append 8 = .ok (.iconst 0, 1) := by decide +kernel
theorem dX4_append_9 : decode cX4_append 9 = .ok (.bipush 7, 2) := by decide +kernel
theorem dX4_append_11 : decode cX4_append 11 = .ok (.invokestatic 28, 3) := by decide +kernel
theorem dX4_append_14 : decode cX4_append 14 = .ok (.ifCond .eq 5, 3) := by decide +kernel
theorem dX4_append_17 : decode cX4_append 17 = .ok (.iconst (-1), 1) := by decide +kernel
theorem dX4_append_18 : decode cX4_append 18 = .ok (.ireturn, 1) := by decide +kernel
theorem dX4_append_19 : decode cX4_append 19 = .ok (.aload_n 0, 1) := by decide +kernel
theorem dX4_append_20 : decode cX4_append 20 = .ok (.getfield 15, 3) := by decide +kernel
theorem dX4_append_23 : decode cX4_append 23 = .ok (.iload 4, 2) := by decide +kernel
theorem dX4_append_25 : decode cX4_append 25 = .ok (.iload_n 1, 1) := by decide +kernel
theorem dX4_append_26 : decode cX4_append 26 = .ok (.iastore, 1) := by decide +kernel
theorem dX4_append_27 : decode cX4_append 27 = .ok (.aload_n 0, 1) := by decide +kernel
theorem dX4_append_28 : decode cX4_append 28 = .ok (.getfield 19, 3) := by decide +kernel
theorem dX4_append_31 : decode cX4_append 31 = .ok (.iload 4, 2) := by decide +kernel
theorem dX4_append_33 : decode cX4_append 33 = .ok (.iload_n 2, 1) := by decide +kernel
theorem dX4_append_34 : decode cX4_append 34 = .ok (.iastore, 1) := by decide +kernel
theorem dX4_append_35 : decode cX4_append 35 = .ok (.aload_n 0, 1) := by decide +kernel
theorem dX4_append_36 : decode cX4_append 36 = .ok (.getfield 22, 3) := by decide +kernel
theorem dX4_append_39 : decode cX4_append 39 = .ok (.iload 4, 2) := by decide +kernel
theorem dX4_append_41 : decode cX4_append 41 = .ok (.iload_n 3, 1) := by decide +kernel
theorem dX4_append_42 : decode cX4_append 42 = .ok (.iastore, 1) := by decide +kernel
theorem dX4_append_43 : decode cX4_append 43 = .ok (.aload_n 0, 1) := by decide +kernel
theorem dX4_append_44 : decode cX4_append 44 = .ok (.getfield 25, 3) := by decide +kernel
theorem dX4_append_47 : decode cX4_append 47 = .ok (.iload 4, 2) := by decide +kernel
theorem dX4_append_49 : decode cX4_append 49 = .ok (.iconst 0, 1) := by decide +kernel
theorem dX4_append_50 : decode cX4_append 50 = .ok (.iastore, 1) := by decide +kernel
theorem dX4_append_51 : decode cX4_append 51 = .ok (.aload_n 0, 1) := by decide +kernel
theorem dX4_append_52 : decode cX4_append 52 = .ok (.iload 4, 2) := by decide +kernel
theorem dX4_append_54 : decode cX4_append 54 = .ok (.iconst 1, 1) := by decide +kernel
theorem dX4_append_55 : decode cX4_append 55 = .ok (.iadd, 1) := by decide +kernel
theorem dX4_append_56 : decode cX4_append 56 = .ok (.putfield 9, 3) := by decide +kernel
theorem dX4_append_59 : decode cX4_append 59 = .ok (.iload 4, 2) := by decide +kernel
theorem dX4_append_61 : decode cX4_append 61 = .ok (.ireturn, 1) := by decide +kernel
theorem dX4_countOf_0 : decode cX4_countOf 0 = .ok (.iload_n 1, 1) := by decide +kernel
theorem dX4_countOf_1 : decode cX4_countOf 1 = .ok (.ifCond .lt 26, 3) := by decide +kernel
theorem dX4_countOf_4 : decode cX4_countOf 4 = .ok (.iload_n 1, 1) := by decide +kernel
theorem dX4_countOf_5 : decode cX4_countOf 5 = .ok (.aload_n 0, 1) := by decide +kernel
theorem dX4_countOf_6 : decode cX4_countOf 6 = .ok (.getfield 9, 3) := by decide +kernel
theorem dX4_countOf_9 : decode cX4_countOf 9 = .ok (.if_icmp .ge 18, 3) := by decide +kernel
theorem dX4_countOf_12 : decode cX4_countOf 12 = .ok (.iload_n 1, 1) := by decide +kernel
theorem dX4_countOf_13 : decode cX4_countOf 13 = .ok (.bipush 8, 2) := by decide +kernel
theorem dX4_countOf_15 : decode cX4_countOf 15 = .ok (.if_icmp .ge 12, 3) := by decide +kernel
theorem dX4_countOf_18 : decode cX4_countOf 18 = .ok (.aload_n 0, 1) := by decide +kernel
theorem dX4_countOf_19 : decode cX4_countOf 19 = .ok (.getfield 25, 3) := by decide +kernel
theorem dX4_countOf_22 : decode cX4_countOf 22 = .ok (.iload_n 1, 1) := by decide +kernel
theorem dX4_countOf_23 : decode cX4_countOf 23 = .ok (.iaload, 1) := by decide +kernel
theorem dX4_countOf_24 : decode cX4_countOf 24 = .ok (.goto 4, 3) := by decide +kernel
theorem dX4_countOf_27 : decode cX4_countOf 27 = .ok (.iconst (-1), 1) := by decide +kernel
theorem dX4_countOf_28 : decode cX4_countOf 28 = .ok (.ireturn, 1) := by decide +kernel
set_option maxRecDepth 20000 in
theorem ggX4_countViolations_X4_isViolated : GoodIn wsX4_countViolations wsX4_isViolated := goodIn_r _ [9] (by decide +kernel) (by decide +kernel)
set_option maxRecDepth 20000 in
theorem gX4_countViolations_X4_isViolated : GoodIn wsX4_countViolations (va_wsS RX4 32 yX4_isViolated wsX4_isViolated) := goodIn_app (goodIn_of _ (by decide +kernel)) ggX4_countViolations_X4_isViolated
theorem dX4_countViolations_0 : decode cX4_countViolations 0 = .ok (.iconst (-1), 1) := by decide +kernel
theorem dX4_countViolations_1 : decode cX4_countViolations 1 = .ok (.istore 4, 2) := by decide +kernel
theorem dX4_countViolations_3 : decode cX4_countViolations 3 = .ok (.iconst 0, 1) := by decide +kernel
theorem dX4_countViolations_4 : decode cX4_countViolations 4 = .ok (.istore 5, 2) := by decide +kernel
theorem dX4_countViolations_6 : decode cX4_countViolations 6 = .ok (.iload 5, 2) := by decide +kernel
theorem dX4_countViolations_8 : decode cX4_countViolations 8 = .ok (.aload_n 0, 1) := by decide +kernel
theorem dX4_countViolations_9 : decode cX4_countViolations 9 = .ok (.getfield 9, 3) := by decide +kernel
theorem dX4_countViolations_12 : decode cX4_countViolations 12 = .ok (.if_icmp .ge 90, 3) := by decide +kernel
theorem dX4_countViolations_15 : decode cX4_countViolations 15 = .ok (.iload 5, 2) := by decide +kernel
theorem dX4_countViolations_17 : decode cX4_countViolations 17 = .ok (.bipush 8, 2) := by decide +kernel
theorem dX4_countViolations_19 : decode cX4_countViolations 19 = .ok (.if_icmp .ge 83, 3) := by decide +kernel
theorem dX4_countViolations_22 : decode cX4_countViolations 22 = .ok (.aload_n 0, 1) := by decide +kernel
theorem dX4_countViolations_23 : decode cX4_countViolations 23 = .ok (.getfield 15, 3) := by decide +kernel
theorem dX4_countViolations_26 : decode cX4_countViolations 26 = .ok (.iload 5, 2) := by decide +kernel
theorem dX4_countViolations_28 : decode cX4_countViolations 28 = .ok (.iaload, 1) := by decide +kernel
theorem dX4_countViolations_29 : decode cX4_countViolations 29 = .ok (.aload_n 0, 1) := by decide +kernel
theorem dX4_countViolations_30 : decode cX4_countViolations 30 = .ok (.getfield 19, 3) := by decide +kernel
theorem dX4_countViolations_33 : decode cX4_countViolations 33 = .ok (.iload 5, 2) := by decide +kernel
theorem dX4_countViolations_35 : decode cX4_countViolations 35 = .ok (.iaload, 1) := by decide +kernel
theorem dX4_countViolations_36 : decode cX4_countViolations 36 = .ok (.iload_n 1, 1) := by decide +kernel
theorem dX4_countViolations_37 : decode cX4_countViolations 37 = .ok (.iload_n 2, 1) := by decide +kernel
theorem dX4_countViolations_38 : decode cX4_countViolations 38 = .ok (.iload_n 3, 1) := by decide +kernel
theorem dX4_countViolations_39 : decode cX4_countViolations 39 = .ok (.invokestatic 32, 3) := by decide +kernel
theorem dX4_countViolations_42 : decode cX4_countViolations 42 = .ok (.istore 6, 2) := by decide +kernel
theorem dX4_countViolations_44 : decode cX4_countViolations 44 = .ok (.aload_n 0, 1) := by decide +kernel
theorem dX4_countViolations_45 : decode cX4_countViolations 45 = .ok (.getfield 25, 3) := by decide +kernel
theorem dX4_countViolations_48 : decode cX4_countViolations 48 = .ok (.iload 5, 2) := by decide +kernel
theorem dX4_countViolations_50 : decode cX4_countViolations 50 = .ok (.iload 6, 2) := by decide +kernel
theorem dX4_countViolations_52 : decode cX4_countViolations 52 = .ok (.ifCond .eq 15, 3) := by decide +kernel
theorem dX4_countViolations_55 : decode cX4_countViolations 55 = .ok (.aload_n 0, 1) := by decide +kernel
theorem dX4_countViolations_56 : decode cX4_countViolations 56 = .ok (.getfield 25, 3) := by decide +kernel
theorem dX4_countViolations_59 : decode cX4_countViolations 59 = .ok (.iload 5, 2) := by decide +kernel
theorem dX4_countViolations_61 : decode cX4_countViolations 61 = .ok (.iaload, 1) := by decide +kernel
theorem dX4_countViolations_62 : decode cX4_countViolations 62 = .ok (.iconst 1, 1) := by decide +kernel
theorem dX4_countViolations_63 : decode cX4_countViolations 63 = .ok (.iadd, 1) := by decide +kernel
theorem dX4_countViolations_64 : decode cX4_countViolations 64 = .ok (.goto 4, 3) := by decide +kernel
theorem dX4_countViolations_67 : decode cX4_countViolations 67 = .ok (.iconst 0, 1) := by decide +kernel
theorem dX4_countViolations_68 : decode cX4_countViolations 68 = .ok (.iastore, 1) := by decide +kernel
theorem dX4_countViolations_69 : decode cX4_countViolations 69 = .ok (.iload 4, 2) := by decide +kernel
theorem dX4_countViolations_71 : decode cX4_countViolations 71 = .ok (.iconst (-1), 1) := by decide +kernel
theorem dX4_countViolations_72 : decode cX4_countViolations 72 = .ok (.if_icmp .ne 24, 3) := by decide +kernel
theorem dX4_countViolations_75 : decode cX4_countViolations 75 = .ok (.aload_n 0, 1) := by decide +kernel
theorem dX4_countViolations_76 : decode cX4_countViolations 76 = .ok (.getfield 25, 3) := by decide +kernel
theorem dX4_countViolations_79 : decode cX4_countViolations 79 = .ok (.iload 5, 2) := by decide +kernel
theorem dX4_countViolations_81 : decode cX4_countViolations 81 = .ok (.iaload, 1) := by decide +kernel
theorem dX4_countViolations_82 : decode cX4_countViolations 82 = .ok (.aload_n 0, 1) := by decide +kernel
theorem dX4_countViolations_83 : decode cX4_countViolations 83 = .ok (.getfield 22, 3) := by decide +kernel
theorem dX4_countViolations_86 : decode cX4_countViolations 86 = .ok (.iload 5, 2) := by decide +kernel
theorem dX4_countViolations_88 : decode cX4_countViolations 88 = .ok (.iaload, 1) := by decide +kernel
theorem dX4_countViolations_89 : decode cX4_countViolations 89 = .ok (.if_icmp .lt 7, 3) := by decide +kernel
theorem dX4_countViolations_92 : decode cX4_countViolations 92 = .ok (.iload 5, 2) := by decide +kernel
theorem dX4_countViolations_94 : decode cX4_countViolations 94 = .ok (.istore 4, 2) := by decide +kernel
theorem dX4_countViolations_96 : decode cX4_countViolations 96 = .ok (.iinc 5 1, 3) := by decide +kernel
theorem dX4_countViolations_99 : decode cX4_countViolations 99 = .ok (.goto (-93), 3) := by decide +kernel
theorem dX4_countViolations_102 : decode cX4_countViolations 102 = .ok (.iload 4, 2) := by decide +kernel
theorem dX4_countViolations_104 : decode cX4_countViolations 104 = .ok (.ireturn, 1) := by decide +kernel
theorem dX4_isViolated_0 : decode cX4_isViolated 0 = .ok (.iload_n 0, 1) := by decide +kernel
theorem dX4_isViolated_1 : decode cX4_isViolated 1 = .ok (.tableswitch 75 0 3 #[31, 42, 53, 64], 31) := by decide +kernel
theorem dX4_isViolated_32 : decode cX4_isViolated 32 = .ok (.iload_n 2, 1) := by decide +kernel
theorem dX4_isViolated_33 : decode cX4_isViolated 33 = .ok (.iload_n 1, 1) := by decide +kernel
theorem dX4_isViolated_34 : decode cX4_isViolated 34 = .ok (.if_icmp .ge 7, 3) := by decide +kernel
theorem dX4_isViolated_37 : decode cX4_isViolated 37 = .ok (.iconst 1, 1) := by decide +kernel
theorem dX4_isViolated_38 : decode cX4_isViolated 38 = .ok (.goto 4, 3) := by decide +kernel
theorem dX4_isViolated_41 : decode cX4_isViolated 41 = .ok (.iconst 0, 1) := by decide +kernel
theorem dX4_isViolated_42 : decode cX4_isViolated 42 = .ok (.ireturn, 1) := by decide +kernel
theorem dX4_isViolated_43 : decode cX4_isViolated 43 = .ok (.iload_n 2, 1) := by decide +kernel
theorem dX4_isViolated_44 : decode cX4_isViolated 44 = .ok (.iload_n 1, 1) := by decide +kernel
theorem dX4_isViolated_45 : decode cX4_isViolated 45 = .ok (.if_icmp .le 7, 3) := by decide +kernel
theorem dX4_isViolated_48 : decode cX4_isViolated 48 = .ok (.iconst 1, 1) := by decide +kernel
theorem dX4_isViolated_49 : decode cX4_isViolated 49 = .ok (.goto 4, 3) := by decide +kernel
theorem dX4_isViolated_52 : decode cX4_isViolated 52 = .ok (.iconst 0, 1) := by decide +kernel
theorem dX4_isViolated_53 : decode cX4_isViolated 53 = .ok (.ireturn, 1) := by decide +kernel
theorem dX4_isViolated_54 : decode cX4_isViolated 54 = .ok (.iload_n 3, 1) := by decide +kernel
theorem dX4_isViolated_55 : decode cX4_isViolated 55 = .ok (.iload_n 1, 1) := by decide +kernel
theorem dX4_isViolated_56 : decode cX4_isViolated 56 = .ok (.if_icmp .ge 7, 3) := by decide +kernel
theorem dX4_isViolated_59 : decode cX4_isViolated 59 = .ok (.iconst 1, 1) := by decide +kernel
theorem dX4_isViolated_60 : decode cX4_isViolated 60 = .ok (.goto 4, 3) := by decide +kernel
theorem dX4_isViolated_63 : decode cX4_isViolated 63 = .ok (.iconst 0, 1) := by decide +kernel
theorem dX4_isViolated_64 : decode cX4_isViolated 64 = .ok (.ireturn, 1) := by decide +kernel
theorem dX4_isViolated_65 : decode cX4_isViolated 65 = .ok (.iload_n 3, 1) := by decide +kernel
theorem dX4_isViolated_66 : decode cX4_isViolated 66 = .ok (.iload_n 1, 1) := by decide +kernel
theorem dX4_isViolated_67 : decode cX4_isViolated 67 = .ok (.if_icmp .le 7, 3) := by decide +kernel
theorem dX4_isViolated_70 : decode cX4_isViolated 70 = .ok (.iconst 1, 1) := by decide +kernel
theorem dX4_isViolated_71 : decode cX4_isViolated 71 = .ok (.goto 4, 3) := by decide +kernel
theorem dX4_isViolated_74 : decode cX4_isViolated 74 = .ok (.iconst 0, 1) := by decide +kernel
theorem dX4_isViolated_75 : decode cX4_isViolated 75 = .ok (.ireturn, 1) := by decide +kernel
theorem dX4_isViolated_76 : decode cX4_isViolated 76 = .ok (.iload 4, 2) := by decide +kernel
theorem dX4_isViolated_78 : decode cX4_isViolated 78 = .ok (.iload_n 1, 1) := by decide +kernel
theorem dX4_isViolated_79 : decode cX4_isViolated 79 = .ok (.if_icmp .le 7, 3) := by decide +kernel
theorem dX4_isViolated_82 : decode cX4_isViolated 82 = .ok (.iconst 1, 1) := by decide +kernel
theorem dX4_isViolated_83 : decode cX4_isViolated 83 = .ok (.goto 4, 3) := by decide +kernel
theorem dX4_isViolated_86 : decode cX4_isViolated 86 = .ok (.iconst 0, 1) := by decide +kernel
theorem dX4_isViolated_87 : decode cX4_isViolated 87 = .ok (.ireturn, 1) := by decide +kernel
theorem dX4_forgetViolations_0 : decode cX4_forgetViolations 0 = .ok (.iconst 0, 1) := by decide +kernel
theorem dX4_forgetViolations_1 : decode cX4_forgetViolations 1 = .ok (.istore_n 1, 1) := by decide +kernel
theorem dX4_forgetViolations_2 : decode cX4_forgetViolations 2 = .ok (.iload_n 1, 1) := by decide +kernel
theorem dX4_forgetViolations_3 : decode cX4_forgetViolations 3 = .ok (.bipush 8, 2) := by decide +kernel
theorem dX4_forgetViolations_5 : decode cX4_forgetViolations 5 = .ok (.if_icmp .ge 16, 3) := by decide +kernel
theorem dX4_forgetViolations_8 : decode cX4_forgetViolations 8 = .ok (.aload_n 0, 1) := by decide +kernel
theorem dX4_forgetViolations_9 : decode cX4_forgetViolations 9 = .ok (.getfield 25, 3) := by decide +kernel
theorem dX4_forgetViolations_12 : decode cX4_forgetViolations 12 = .ok (.iload_n 1, 1) := by decide +kernel
theorem dX4_forgetViolations_13 : decode cX4_forgetViolations 13 = .ok (.iconst 0, 1) := by decide +kernel
theorem dX4_forgetViolations_14 : decode cX4_forgetViolations 14 = .ok (.iastore, 1) := by decide +kernel
theorem dX4_forgetViolations_15 : decode cX4_forgetViolations 15 = .ok (.iinc 1 1, 3) := by decide +kernel
theorem dX4_forgetViolations_18 : decode cX4_forgetViolations 18 = .ok (.goto (-16), 3) := by decide +kernel
theorem dX4_forgetViolations_21 : decode cX4_forgetViolations 21 = .ok (.return_, 1) := by decide +kernel
set_option maxRecDepth 20000 in
theorem ggX4_takeFrom_X6_copyRow : GoodIn wsX4_takeFrom wsX6_copyRow := goodIn_r _ [8, 9, 10, 11, 12, 13, 14, 15, 16] (by decide +kernel) (by decide +kernel)
set_option maxRecDepth 20000 in
theorem gX4_takeFrom_X6_copyRow_n36 : GoodIn wsX4_takeFrom (wsX6_copyRow) := ggX4_takeFrom_X6_copyRow
theorem dX4_takeFrom_0 : decode cX4_takeFrom 0 = .ok (.aload_n 0, 1) := by decide +kernel
theorem dX4_takeFrom_1 : decode cX4_takeFrom 1 = .ok (.aload_n 1, 1) := by decide +kernel
theorem dX4_takeFrom_2 : decode cX4_takeFrom 2 = .ok (.getfield 9, 3) := by decide +kernel
theorem dX4_takeFrom_5 : decode cX4_takeFrom 5 = .ok (.putfield 9, 3) := by decide +kernel
theorem dX4_takeFrom_8 : decode cX4_takeFrom 8 = .ok (.aload_n 1, 1) := by decide +kernel
theorem dX4_takeFrom_9 : decode cX4_takeFrom 9 = .ok (.getfield 15, 3) := by decide +kernel
theorem dX4_takeFrom_12 : decode cX4_takeFrom 12 = .ok (.aload_n 0, 1) := by decide +kernel
theorem dX4_takeFrom_13 : decode cX4_takeFrom 13 = .ok (.getfield 15, 3) := by decide +kernel
theorem dX4_takeFrom_16 : decode cX4_takeFrom 16 = .ok (.invokestatic 36, 3) := by decide +kernel
theorem dX4_takeFrom_19 : decode cX4_takeFrom 19 = .ok (.aload_n 1, 1) := by decide +kernel
theorem dX4_takeFrom_20 : decode cX4_takeFrom 20 = .ok (.getfield 19, 3) := by decide +kernel
theorem dX4_takeFrom_23 : decode cX4_takeFrom 23 = .ok (.aload_n 0, 1) := by decide +kernel
theorem dX4_takeFrom_24 : decode cX4_takeFrom 24 = .ok (.getfield 19, 3) := by decide +kernel
theorem dX4_takeFrom_27 : decode cX4_takeFrom 27 = .ok (.invokestatic 36, 3) := by decide +kernel
theorem dX4_takeFrom_30 : decode cX4_takeFrom 30 = .ok (.aload_n 1, 1) := by decide +kernel
theorem dX4_takeFrom_31 : decode cX4_takeFrom 31 = .ok (.getfield 22, 3) := by decide +kernel
theorem dX4_takeFrom_34 : decode cX4_takeFrom 34 = .ok (.aload_n 0, 1) := by decide +kernel
theorem dX4_takeFrom_35 : decode cX4_takeFrom 35 = .ok (.getfield 22, 3) := by decide +kernel
theorem dX4_takeFrom_38 : decode cX4_takeFrom 38 = .ok (.invokestatic 36, 3) := by decide +kernel
theorem dX4_takeFrom_41 : decode cX4_takeFrom 41 = .ok (.aload_n 1, 1) := by decide +kernel
theorem dX4_takeFrom_42 : decode cX4_takeFrom 42 = .ok (.getfield 25, 3) := by decide +kernel
theorem dX4_takeFrom_45 : decode cX4_takeFrom 45 = .ok (.aload_n 0, 1) := by decide +kernel
theorem dX4_takeFrom_46 : decode cX4_takeFrom 46 = .ok (.getfield 25, 3) := by decide +kernel
theorem dX4_takeFrom_49 : decode cX4_takeFrom 49 = .ok (.invokestatic 36, 3) := by decide +kernel
theorem dX4_takeFrom_52 : decode cX4_takeFrom 52 = .ok (.return_, 1) := by decide +kernel
set_option maxRecDepth 20000 in
theorem ggX5_init_X1_init : GoodIn wsX5_init wsX1_init := goodIn_r _ [26, 27, 2, 3, 28, 29, 30, 31, 32, 33, 34, 35, 36, 37, 92, 93, 94, 95, 96, 97, 98, 99, 100] (by decide +kernel) (by decide +kernel)
set_option maxRecDepth 20000 in
theorem gX5_init_X1_init_n17 : GoodIn wsX5_init (wsX1_init) := ggX5_init_X1_init
set_option maxRecDepth 20000 in
theorem ggX5_init_X3_init : GoodIn wsX5_init wsX3_init := goodIn_r _ [40, 41, 2, 3, 42, 43, 44, 45, 46, 47, 48, 49, 50, 51, 52, 101, 102, 103, 104, 105, 106, 107, 108, 109] (by decide +kernel) (by decide +kernel)
set_option maxRecDepth 20000 in
theorem gX5_init_X3_init : GoodIn wsX5_init (wsX3_init) := ggX5_init_X3_init
set_option maxRecDepth 20000 in
theorem ggX5_init_X0_init : GoodIn wsX5_init wsX0_init := goodIn_r _ [54, 55, 2, 3, 56, 57, 58, 59, 60, 61, 62, 63, 64, 65, 66, 67, 68, 69, 70, 71, 110, 111, 112, 113, 114, 115, 116, 117, 118, 119, 120, 121, 122, 123] (by decide +kernel) (by decide +kernel)
set_option maxRecDepth 20000 in
theorem gX5_init_X0_init_n31 : GoodIn wsX5_init (wsX0_init) := ggX5_init_X0_init
set_option maxRecDepth 20000 in
theorem ggX5_init_X4_init : GoodIn wsX5_init wsX4_init := goodIn_r _ [73, 74, 2, 3, 75, 51, 76, 77, 78, 79, 124, 125, 126, 127, 128] (by decide +kernel) (by decide +kernel)
set_option maxRecDepth 20000 in
theorem gX5_init_X4_init_n38 : GoodIn wsX5_init (wsX4_init) := ggX5_init_X4_init
set_option maxRecDepth 20000 in
theorem ggX5_init_X2_init : GoodIn wsX5_init wsX2_init := goodIn_r _ [81, 82, 2, 3, 83, 51, 84, 85, 129, 130, 131] (by decide +kernel) (by decide +kernel)
set_option maxRecDepth 20000 in
theorem gX5_init_X2_init_n45 : GoodIn wsX5_init (wsX2_init) := ggX5_init_X2_init
theorem dX5_init_0 : decode cX5_init 0 = .ok (.aload_n 0, 1) := by decide +kernel
theorem dX5_init_1 : decode cX5_init 1 = .ok (.invokespecial 3, 3) := by decide +kernel
theorem dX5_init_4 : decode cX5_init 4 = .ok (.aload_n 0, 1) := by decide +kernel
theorem dX5_init_5 : decode cX5_init 5 = .ok (.iconst 0, 1) := by decide +kernel
theorem dX5_init_6 : decode cX5_init 6 = .ok (.putfield 9, 3) := by decide +kernel
theorem dX5_init_9 : decode cX5_init 9 = .ok (.aload_n 0, 1) := by decide +kernel
theorem dX5_init_10 : decode cX5_init 10 = .ok (.new 15, 3) := by decide +kernel
theorem dX5_init_13 : decode cX5_init 13 = .ok (.dup, 1) := by decide +kernel
theorem dX5_init_14 : decode cX5_init 14 = .ok (.invokespecial 17, 3) := by decide +kernel
theorem dX5_init_17 : decode cX5_init 17 = .ok (.putfield 18, 3) := by decide +kernel
theorem dX5_init_20 : decode cX5_init 20 = .ok (.aload_n 0, 1) := by decide +kernel
theorem dX5_init_21 : decode cX5_init 21 = .ok (.new 22, 3) := by decide +kernel
theorem dX5_init_24 : decode cX5_init 24 = .ok (.dup, 1) := by decide +kernel
theorem dX5_init_25 : decode cX5_init 25 = .ok (.invokespecial 24, 3) := by decide +kernel
theorem dX5_init_28 : decode cX5_init 28 = .ok (.putfield 25, 3) := by decide +kernel
theorem dX5_init_31 : decode cX5_init 31 = .ok (.aload_n 0, 1) := by decide +kernel
theorem dX5_init_32 : decode cX5_init 32 = .ok (.new 29, 3) := by decide +kernel
theorem dX5_init_35 : decode cX5_init 35 = .ok (.dup, 1) := by decide +kernel
theorem dX5_init_36 : decode cX5_init 36 = .ok (.invokespecial 31, 3) := by decide +kernel
theorem dX5_init_39 : decode cX5_init 39 = .ok (.putfield 32, 3) := by decide +kernel
theorem dX5_init_42 : decode cX5_init 42 = .ok (.aload_n 0, 1) := by decide +kernel
theorem dX5_init_43 : decode cX5_init 43 = .ok (.new 36, 3) := by decide +kernel
theorem dX5_init_46 : decode cX5_init 46 = .ok (.dup, 1) := by decide +kernel
theorem dX5_init_47 : decode cX5_init 47 = .ok (.invokespecial 38, 3) := by decide +kernel
theorem dX5_init_50 : decode cX5_init 50 = .ok (.putfield 39, 3) := by decide +kernel
theorem dX5_init_53 : decode cX5_init 53 = .ok (.aload_n 0, 1) := by decide +kernel
theorem dX5_init_54 : decode cX5_init 54 = .ok (.new 43, 3) := by decide +kernel
theorem dX5_init_57 : decode cX5_init 57 = .ok (.dup, 1) := by decide +kernel
theorem dX5_init_58 : decode cX5_init 58 = .ok (.invokespecial 45, 3) := by decide +kernel
theorem dX5_init_61 : decode cX5_init 61 = .ok (.putfield 46, 3) := by decide +kernel
theorem dX5_init_64 : decode cX5_init 64 = .ok (.return_, 1) := by decide +kernel
set_option maxRecDepth 20000 in
theorem ggX5_tick_X0_drifted : GoodIn wsX5_tick wsX0_drifted := goodIn_r _ [15, 16, 17, 18, 162, 163, 164, 165, 166, 167, 168, 169, 170, 171, 172, 173, 174, 175] (by decide +kernel) (by decide +kernel)
set_option maxRecDepth 20000 in
theorem gX5_tick_X0_drifted : GoodIn wsX5_tick (wsV RX5 56 RX0 yX0_drifted wsX0_drifted) := goodIn_app (goodIn_of _ (by decide +kernel)) ggX5_tick_X0_drifted
set_option maxRecDepth 20000 in
theorem ggX5_tick_X1_settle : GoodIn wsX5_tick wsX1_settle := goodIn_r _ [23, 24, 25, 26, 27, 28, 29, 30, 31, 22, 32, 33, 34, 35, 36, 37, 38, 39, 40, 41, 42, 43, 44, 45, 46, 47, 48, 49, 50, 51, 52, 185, 186, 187, 188, 189, 190, 191, 192, 193] (by decide +kernel) (by decide +kernel)
set_option maxRecDepth 20000 in
theorem gX5_tick_X1_settle : GoodIn wsX5_tick (wsV RX5 60 RX1 yX1_settle wsX1_settle) := goodIn_app (goodIn_of _ (by decide +kernel)) ggX5_tick_X1_settle
set_option maxRecDepth 20000 in
theorem ggX5_tick_X1_turn : GoodIn wsX5_tick wsX1_turn := goodIn_r _ [56, 57, 58, 59, 60, 61, 62, 185, 186, 187, 188, 189, 190, 191, 192, 193] (by decide +kernel) (by decide +kernel)
set_option maxRecDepth 20000 in
theorem gX5_tick_X1_turn : GoodIn wsX5_tick (wsV RX5 65 RX1 yX1_turn wsX1_turn) := goodIn_app (goodIn_of _ (by decide +kernel)) ggX5_tick_X1_turn
set_option maxRecDepth 20000 in
theorem ggX5_tick_X3_follow : GoodIn wsX5_tick wsX3_follow := goodIn_r _ [67, 68, 69, 70, 71, 72, 73, 74, 75, 76, 77, 60, 61, 62, 44, 45, 46, 47, 48, 49, 35, 36, 37, 50, 51, 52, 78, 79, 176, 177, 178, 179, 180, 181, 182, 183, 184] (by decide +kernel) (by decide +kernel)
set_option maxRecDepth 20000 in
theorem gX5_tick_X3_follow : GoodIn wsX5_tick (wsV RX5 75 RX3 yX3_follow wsX3_follow) := goodIn_app (goodIn_of _ (by decide +kernel)) ggX5_tick_X3_follow
set_option maxRecDepth 20000 in
theorem ggX5_tick_X3_changeUntil : GoodIn wsX5_tick wsX3_changeUntil := goodIn_r _ [83, 69, 84, 77, 60, 61, 62, 176, 177, 178, 179, 180, 181, 182, 183, 184] (by decide +kernel) (by decide +kernel)
set_option maxRecDepth 20000 in
theorem gX5_tick_X3_changeUntil : GoodIn wsX5_tick (wsV RX5 78 RX3 yX3_changeUntil wsX3_changeUntil) := goodIn_app (goodIn_of _ (by decide +kernel)) ggX5_tick_X3_changeUntil
set_option maxRecDepth 20000 in
theorem ggX5_tick_X5_protect : GoodIn wsX5_tick wsX5_protect := goodIn_r _ [89, 5, 90, 2, 9, 6, 3, 91, 92, 93, 66, 94, 76, 95, 96, 97, 98, 88, 99, 10, 4, 100, 101, 1, 102, 103, 104, 105, 106, 107, 108, 109, 110, 60, 61, 62, 111, 112, 113, 114, 115, 116, 117, 118, 119, 120, 121, 122, 123, 124, 125, 126, 14, 127, 128, 129, 130, 131, 35, 36, 37, 156, 157, 158, 159, 160, 161, 185, 186, 187, 188, 189, 190, 191, 192, 193, 176, 177, 178, 179, 180, 181, 182, 183, 184, 162, 163, 164, 165, 166, 167, 168, 169, 170, 171, 172, 173, 174, 175, 194, 195, 196, 197, 198, 199, 200, 201] (by decide +kernel) (by decide +kernel)
set_option maxRecDepth 20000 in
theorem gX5_tick_X5_protect : GoodIn wsX5_tick (wsV RX5 84 RX5 yX5_protect wsX5_protect) := goodIn_app (goodIn_of _ (by decide +kernel)) ggX5_tick_X5_protect
set_option maxRecDepth 20000 in
theorem ggX5_tick_X5_prepare : GoodIn wsX5_tick wsX5_prepare := goodIn_r _ [135, 5, 3, 2, 9, 6, 100, 136, 10, 90, 101, 1, 91, 92, 93, 66, 94, 76, 95, 137, 138, 139, 14, 140, 141, 142, 143, 144, 78, 45, 79, 124, 125, 126, 127, 128, 129, 130, 131, 35, 36, 37, 145, 146, 147, 114, 148, 119, 102, 103, 104, 105, 106, 107, 108, 109, 110, 60, 61, 62, 156, 157, 158, 159, 160, 161, 185, 186, 187, 188, 189, 190, 191, 192, 193, 176, 177, 178, 179, 180, 181, 182, 183, 184, 162, 163, 164, 165, 166, 167, 168, 169, 170, 171, 172, 173, 174, 175, 197, 198, 199, 200, 201, 194, 195, 196] (by decide +kernel) (by decide +kernel)
set_option maxRecDepth 20000 in
theorem gX5_tick_X5_prepare : GoodIn wsX5_tick (wsV RX5 87 RX5 yX5_prepare wsX5_prepare) := goodIn_app (goodIn_of _ (by decide +kernel)) ggX5_tick_X5_prepare
set_option maxRecDepth 20000 in
theorem ggX5_tick_X0_account : GoodIn wsX5_tick wsX0_account := goodIn_r _ [152, 153, 128, 154, 155, 162, 163, 164, 165, 166, 167, 168, 169, 170, 171, 172, 173, 174, 175] (by decide +kernel) (by decide +kernel)
set_option maxRecDepth 20000 in
theorem gX5_tick_X0_account : GoodIn wsX5_tick (wsV RX5 90 RX0 yX0_account wsX0_account) := goodIn_app (goodIn_of _ (by decide +kernel)) ggX5_tick_X0_account
theorem dX5_tick_0 : decode cX5_tick 0 = .ok (.aload_n 0, 1) := by decide +kernel
theorem dX5_tick_1 : decode cX5_tick 1 = .ok (.dup, 1) := by decide +kernel
theorem dX5_tick_2 : decode cX5_tick 2 = .ok (.getfield 9, 3) := by decide +kernel
theorem dX5_tick_5 : decode cX5_tick 5 = .ok (.iconst 1, 1) := by decide +kernel
theorem dX5_tick_6 : decode cX5_tick 6 = .ok (.iadd, 1) := by decide +kernel
theorem dX5_tick_7 : decode cX5_tick 7 = .ok (.putfield 9, 3) := by decide +kernel
theorem dX5_tick_10 : decode cX5_tick 10 = .ok (.aload_n 0, 1) := by decide +kernel
theorem dX5_tick_11 : decode cX5_tick 11 = .ok (.getfield 18, 3) := by decide +kernel
theorem dX5_tick_14 : decode cX5_tick 14 = .ok (.aload_n 0, 1) := by decide +kernel
theorem dX5_tick_15 : decode cX5_tick 15 = .ok (.getfield 32, 3) := by decide +kernel
theorem dX5_tick_18 : decode cX5_tick 18 = .ok (.getfield 50, 3) := by decide +kernel
theorem dX5_tick_21 : decode cX5_tick 21 = .ok (.aload_n 0, 1) := by decide +kernel
theorem dX5_tick_22 : decode cX5_tick 22 = .ok (.getfield 32, 3) := by decide +kernel
theorem dX5_tick_25 : decode cX5_tick 25 = .ok (.aload_n 0, 1) := by decide +kernel
theorem dX5_tick_26 : decode cX5_tick 26 = .ok (.getfield 25, 3) := by decide +kernel
theorem dX5_tick_29 : decode cX5_tick 29 = .ok (.getfield 53, 3) := by decide +kernel
theorem dX5_tick_32 : decode cX5_tick 32 = .ok (.invokevirtual 56, 3) := by decide +kernel
theorem dX5_tick_35 : decode cX5_tick 35 = .ok (.invokevirtual 60, 3) := by decide +kernel
theorem dX5_tick_38 : decode cX5_tick 38 = .ok (.aload_n 0, 1) := by decide +kernel
theorem dX5_tick_39 : decode cX5_tick 39 = .ok (.getfield 18, 3) := by decide +kernel
theorem dX5_tick_42 : decode cX5_tick 42 = .ok (.aload_n 0, 1) := by decide +kernel
theorem dX5_tick_43 : decode cX5_tick 43 = .ok (.getfield 18, 3) := by decide +kernel
theorem dX5_tick_46 : decode cX5_tick 46 = .ok (.getfield 64, 3) := by decide +kernel
theorem dX5_tick_49 : decode cX5_tick 49 = .ok (.invokevirtual 65, 3) := by decide +kernel
theorem dX5_tick_52 : decode cX5_tick 52 = .ok (.aload_n 0, 1) := by decide +kernel
theorem dX5_tick_53 : decode cX5_tick 53 = .ok (.getfield 25, 3) := by decide +kernel
theorem dX5_tick_56 : decode cX5_tick 56 = .ok (.aload_n 0, 1) := by decide +kernel
theorem dX5_tick_57 : decode cX5_tick 57 = .ok (.getfield 18, 3) := by decide +kernel
theorem dX5_tick_60 : decode cX5_tick 60 = .ok (.getfield 69, 3) := by decide +kernel
theorem dX5_tick_63 : decode cX5_tick 63 = .ok (.aload_n 0, 1) := by decide +kernel
theorem dX5_tick_64 : decode cX5_tick 64 = .ok (.getfield 18, 3) := by decide +kernel
theorem dX5_tick_67 : decode cX5_tick 67 = .ok (.getfield 72, 3) := by decide +kernel
theorem dX5_tick_70 : decode cX5_tick 70 = .ok (.invokevirtual 75, 3) := by decide +kernel
theorem dX5_tick_73 : decode cX5_tick 73 = .ok (.aload_n 0, 1) := by decide +kernel
theorem dX5_tick_74 : decode cX5_tick 74 = .ok (.getfield 25, 3) := by decide +kernel
theorem dX5_tick_77 : decode cX5_tick 77 = .ok (.aload_n 0, 1) := by decide +kernel
theorem dX5_tick_78 : decode cX5_tick 78 = .ok (.getfield 9, 3) := by decide +kernel
theorem dX5_tick_81 : decode cX5_tick 81 = .ok (.invokevirtual 78, 3) := by decide +kernel
theorem dX5_tick_84 : decode cX5_tick 84 = .ok (.istore_n 1, 1) := by decide +kernel
theorem dX5_tick_85 : decode cX5_tick 85 = .ok (.aload_n 0, 1) := by decide +kernel
theorem dX5_tick_86 : decode cX5_tick 86 = .ok (.getfield 32, 3) := by decide +kernel
theorem dX5_tick_89 : decode cX5_tick 89 = .ok (.getfield 81, 3) := by decide +kernel
theorem dX5_tick_92 : decode cX5_tick 92 = .ok (.istore_n 2, 1) := by decide +kernel
theorem dX5_tick_93 : decode cX5_tick 93 = .ok (.iload_n 2, 1) := by decide +kernel
theorem dX5_tick_94 : decode cX5_tick 94 = .ok (.iconst 1, 1) := by decide +kernel
theorem dX5_tick_95 : decode cX5_tick 95 = .ok (.if_icmp .ne 11, 3) := by decide +kernel
theorem dX5_tick_98 : decode cX5_tick 98 = .ok (.aload_n 0, 1) := by decide +kernel
theorem dX5_tick_99 : decode cX5_tick 99 = .ok (.iload_n 1, 1) := by decide +kernel
theorem dX5_tick_100 : decode cX5_tick 100 = .ok (.invokevirtual 84, 3) := by decide +kernel
theorem dX5_tick_103 : decode cX5_tick 103 = .ok (.goto 11, 3) := by decide +kernel
theorem dX5_tick_106 : decode cX5_tick 106 = .ok (.iload_n 2, 1) := by decide +kernel
theorem dX5_tick_107 : decode cX5_tick 107 = .ok (.ifCond .ne 7, 3) := by decide +kernel
theorem dX5_tick_110 : decode cX5_tick 110 = .ok (.aload_n 0, 1) := by decide +kernel
theorem dX5_tick_111 : decode cX5_tick 111 = .ok (.invokevirtual 87, 3) := by decide +kernel
theorem dX5_tick_114 : decode cX5_tick 114 = .ok (.aload_n 0, 1) := by decide +kernel
theorem dX5_tick_115 : decode cX5_tick 115 = .ok (.getfield 32, 3) := by decide +kernel
theorem dX5_tick_118 : decode cX5_tick 118 = .ok (.invokevirtual 90, 3) := by decide +kernel
theorem dX5_tick_121 : decode cX5_tick 121 = .ok (.return_, 1) := by decide +kernel
set_option maxRecDepth 20000 in
theorem ggX5_protect_X3_holdsLock : GoodIn wsX5_protect wsX3_holdsLock := goodIn_r _ [11, 12, 13, 76, 77, 78, 79, 80, 81, 82, 83, 84] (by decide +kernel) (by decide +kernel)
set_option maxRecDepth 20000 in
theorem gX5_protect_X3_holdsLock : GoodIn wsX5_protect (wsV RX5 93 RX3 yX3_holdsLock wsX3_holdsLock) := goodIn_app (goodIn_of _ (by decide +kernel)) ggX5_protect_X3_holdsLock
set_option maxRecDepth 20000 in
theorem ggX5_protect_X5_trip : GoodIn wsX5_protect wsX5_trip := goodIn_r _ [18, 6, 19, 20, 21, 22, 23, 24, 25, 26, 27, 28, 29, 30, 31, 32, 33, 34, 35, 61, 62, 63, 64, 65, 66, 85, 86, 87, 88, 89, 90, 91, 92, 93, 94, 95, 96, 97, 98, 99, 100, 101] (by decide +kernel) (by decide +kernel)
set_option maxRecDepth 20000 in
theorem gX5_protect_X5_trip : GoodIn wsX5_protect (wsV RX5 97 RX5 yX5_trip wsX5_trip) := goodIn_app (goodIn_of _ (by decide +kernel)) ggX5_protect_X5_trip
set_option maxRecDepth 20000 in
theorem ggX5_protect_X4_countViolations : GoodIn wsX5_protect wsX4_countViolations := goodIn_r _ [40, 41, 42, 43, 44, 45, 46, 47, 39, 48, 102, 103, 104, 105, 106] (by decide +kernel) (by decide +kernel)
set_option maxRecDepth 20000 in
theorem gX5_protect_X4_countViolations : GoodIn wsX5_protect (wsV RX5 100 RX4 yX4_countViolations wsX4_countViolations) := goodIn_app (goodIn_of _ (by decide +kernel)) ggX5_protect_X4_countViolations
set_option maxRecDepth 20000 in
theorem ggX5_protect_X0_raisePower : GoodIn wsX5_protect wsX0_raisePower := goodIn_r _ [53, 54, 55, 56, 57, 58, 59, 60, 85, 86, 87, 88, 89, 90, 91, 92, 93, 94, 95, 96, 97, 98] (by decide +kernel) (by decide +kernel)
set_option maxRecDepth 20000 in
theorem gX5_protect_X0_raisePower : GoodIn wsX5_protect (wsV RX5 104 RX0 yX0_raisePower wsX0_raisePower) := goodIn_app (goodIn_of _ (by decide +kernel)) ggX5_protect_X0_raisePower
theorem dX5_protect_0 : decode cX5_protect 0 = .ok (.aload_n 0, 1) := by decide +kernel
theorem dX5_protect_1 : decode cX5_protect 1 = .ok (.getfield 25, 3) := by decide +kernel
theorem dX5_protect_4 : decode cX5_protect 4 = .ok (.invokevirtual 93, 3) := by decide +kernel
theorem dX5_protect_7 : decode cX5_protect 7 = .ok (.ifCond .ne 10, 3) := by decide +kernel
theorem dX5_protect_10 : decode cX5_protect 10 = .ok (.aload_n 0, 1) := by decide +kernel
theorem dX5_protect_11 : decode cX5_protect 11 = .ok (.bipush 101, 2) := by decide +kernel
theorem dX5_protect_13 : decode cX5_protect 13 = .ok (.invokevirtual 97, 3) := by decide +kernel
theorem dX5_protect_16 : decode cX5_protect 16 = .ok (.return_, 1) := by decide +kernel
theorem dX5_protect_17 : decode cX5_protect 17 = .ok (.aload_n 0, 1) := by decide +kernel
theorem dX5_protect_18 : decode cX5_protect 18 = .ok (.getfield 39, 3) := by decide +kernel
theorem dX5_protect_21 : decode cX5_protect 21 = .ok (.aload_n 0, 1) := by decide +kernel
theorem dX5_protect_22 : decode cX5_protect 22 = .ok (.getfield 18, 3) := by decide +kernel
theorem dX5_protect_25 : decode cX5_protect 25 = .ok (.getfield 72, 3) := by decide +kernel
theorem dX5_protect_28 : decode cX5_protect 28 = .ok (.aload_n 0, 1) := by decide +kernel
theorem dX5_protect_29 : decode cX5_protect 29 = .ok (.getfield 25, 3) := by decide +kernel
theorem dX5_protect_32 : decode cX5_protect 32 = .ok (.getfield 53, 3) := by decide +kernel
theorem dX5_protect_35 : decode cX5_protect 35 = .ok (.iload_n 1, 1) := by decide +kernel
theorem dX5_protect_36 : decode cX5_protect 36 = .ok (.invokevirtual 100, 3) := by decide +kernel
theorem dX5_protect_39 : decode cX5_protect 39 = .ok (.istore_n 2, 1) := by decide +kernel
theorem dX5_protect_40 : decode cX5_protect 40 = .ok (.iload_n 2, 1) := by decide +kernel
theorem dX5_protect_41 : decode cX5_protect 41 = .ok (.iconst (-1), 1) := by decide +kernel
theorem dX5_protect_42 : decode cX5_protect 42 = .ok (.if_icmp .ne 13, 3) := by decide +kernel
theorem dX5_protect_45 : decode cX5_protect 45 = .ok (.aload_n 0, 1) := by decide +kernel
theorem dX5_protect_46 : decode cX5_protect 46 = .ok (.getfield 32, 3) := by decide +kernel
theorem dX5_protect_49 : decode cX5_protect 49 = .ok (.invokevirtual 104, 3) := by decide +kernel
theorem dX5_protect_52 : decode cX5_protect 52 = .ok (.goto 8, 3) := by decide +kernel
theorem dX5_protect_55 : decode cX5_protect 55 = .ok (.aload_n 0, 1) := by decide +kernel
theorem dX5_protect_56 : decode cX5_protect 56 = .ok (.iload_n 2, 1) := by decide +kernel
theorem dX5_protect_57 : decode cX5_protect 57 = .ok (.invokevirtual 97, 3) := by decide +kernel
theorem dX5_protect_60 : decode cX5_protect 60 = .ok (.return_, 1) := by decide +kernel
set_option maxRecDepth 20000 in
theorem ggX5_prepare_X3_holdsLock : GoodIn wsX5_prepare wsX3_holdsLock := goodIn_r _ [16, 17, 18, 75, 76, 77, 78, 79, 80, 81, 82, 83] (by decide +kernel) (by decide +kernel)
set_option maxRecDepth 20000 in
theorem gX5_prepare_X3_holdsLock : GoodIn wsX5_prepare (wsV RX5 93 RX3 yX3_holdsLock wsX3_holdsLock) := goodIn_app (goodIn_of _ (by decide +kernel)) ggX5_prepare_X3_holdsLock
set_option maxRecDepth 20000 in
theorem ggX5_prepare_X0_admits : GoodIn wsX5_prepare wsX0_admits := goodIn_r _ [23, 24, 25, 26, 27, 28, 29, 30, 84, 85, 86, 87, 88, 89, 90, 91, 92, 93, 94, 95, 96, 97] (by decide +kernel) (by decide +kernel)
set_option maxRecDepth 20000 in
theorem gX5_prepare_X0_admits : GoodIn wsX5_prepare (wsV RX5 107 RX0 yX0_admits wsX0_admits) := goodIn_app (goodIn_of _ (by decide +kernel)) ggX5_prepare_X0_admits
set_option maxRecDepth 20000 in
theorem ggX5_prepare_X0_raisePower : GoodIn wsX5_prepare wsX0_raisePower := goodIn_r _ [34, 35, 36, 37, 38, 39, 40, 41, 84, 85, 86, 87, 88, 89, 90, 91, 92, 93, 94, 95, 96, 97] (by decide +kernel) (by decide +kernel)
set_option maxRecDepth 20000 in
theorem gX5_prepare_X0_raisePower : GoodIn wsX5_prepare (wsV RX5 104 RX0 yX0_raisePower wsX0_raisePower) := goodIn_app (goodIn_of _ (by decide +kernel)) ggX5_prepare_X0_raisePower
set_option maxRecDepth 20000 in
theorem ggX5_prepare_X4_forgetViolations : GoodIn wsX5_prepare wsX4_forgetViolations := goodIn_r _ [46, 47, 98, 99, 100, 101, 102] (by decide +kernel) (by decide +kernel)
set_option maxRecDepth 20000 in
theorem gX5_prepare_X4_forgetViolations : GoodIn wsX5_prepare (wsV RX5 117 RX4 yX4_forgetViolations wsX4_forgetViolations) := goodIn_app (goodIn_of _ (by decide +kernel)) ggX5_prepare_X4_forgetViolations
set_option maxRecDepth 20000 in
theorem ggX5_prepare_X2_append : GoodIn wsX5_prepare wsX2_append := goodIn_r _ [52, 53, 54, 55, 56, 57, 58, 59, 103, 104, 105] (by decide +kernel) (by decide +kernel)
set_option maxRecDepth 20000 in
theorem gX5_prepare_X2_append : GoodIn wsX5_prepare (wsV RX5 120 RX2 yX2_append wsX2_append) := goodIn_app (goodIn_of _ (by decide +kernel)) ggX5_prepare_X2_append
theorem dX5_prepare_0 : decode cX5_prepare 0 = .ok (.aload_n 0, 1) := by decide +kernel
theorem dX5_prepare_1 : decode cX5_prepare 1 = .ok (.getfield 25, 3) := by decide +kernel
theorem dX5_prepare_4 : decode cX5_prepare 4 = .ok (.invokevirtual 93, 3) := by decide +kernel
theorem dX5_prepare_7 : decode cX5_prepare 7 = .ok (.ifCond .eq 31, 3) := by decide +kernel
theorem dX5_prepare_10 : decode cX5_prepare 10 = .ok (.aload_n 0, 1) := by decide +kernel
theorem dX5_prepare_11 : decode cX5_prepare 11 = .ok (.getfield 32, 3) := by decide +kernel
theorem dX5_prepare_14 : decode cX5_prepare 14 = .ok (.aload_n 0, 1) := by decide +kernel
theorem dX5_prepare_15 : decode cX5_prepare 15 = .ok (.getfield 18, 3) := by decide +kernel
theorem dX5_prepare_18 : decode cX5_prepare 18 = .ok (.getfield 72, 3) := by decide +kernel
theorem dX5_prepare_21 : decode cX5_prepare 21 = .ok (.aload_n 0, 1) := by decide +kernel
theorem dX5_prepare_22 : decode cX5_prepare 22 = .ok (.getfield 25, 3) := by decide +kernel
theorem dX5_prepare_25 : decode cX5_prepare 25 = .ok (.getfield 53, 3) := by decide +kernel
theorem dX5_prepare_28 : decode cX5_prepare 28 = .ok (.invokevirtual 107, 3) := by decide +kernel
theorem dX5_prepare_31 : decode cX5_prepare 31 = .ok (.ifCond .eq 7, 3) := by decide +kernel
theorem dX5_prepare_34 : decode cX5_prepare 34 = .ok (.iconst 1, 1) := by decide +kernel
theorem dX5_prepare_35 : decode cX5_prepare 35 = .ok (.goto 4, 3) := by decide +kernel
theorem dX5_prepare_38 : decode cX5_prepare 38 = .ok (.iconst 0, 1) := by decide +kernel
theorem dX5_prepare_39 : decode cX5_prepare 39 = .ok (.istore_n 1, 1) := by decide +kernel
theorem dX5_prepare_40 : decode cX5_prepare 40 = .ok (.aload_n 0, 1) := by decide +kernel
theorem dX5_prepare_41 : decode cX5_prepare 41 = .ok (.getfield 32, 3) := by decide +kernel
theorem dX5_prepare_44 : decode cX5_prepare 44 = .ok (.iload_n 1, 1) := by decide +kernel
theorem dX5_prepare_45 : decode cX5_prepare 45 = .ok (.ifCond .eq 15, 3) := by decide +kernel
theorem dX5_prepare_48 : decode cX5_prepare 48 = .ok (.aload_n 0, 1) := by decide +kernel
theorem dX5_prepare_49 : decode cX5_prepare 49 = .ok (.getfield 32, 3) := by decide +kernel
theorem dX5_prepare_52 : decode cX5_prepare 52 = .ok (.getfield 111, 3) := by decide +kernel
theorem dX5_prepare_55 : decode cX5_prepare 55 = .ok (.iconst 1, 1) := by decide +kernel
theorem dX5_prepare_56 : decode cX5_prepare 56 = .ok (.iadd, 1) := by decide +kernel
theorem dX5_prepare_57 : decode cX5_prepare 57 = .ok (.goto 4, 3) := by decide +kernel
theorem dX5_prepare_60 : decode cX5_prepare 60 = .ok (.iconst 0, 1) := by decide +kernel
theorem dX5_prepare_61 : decode cX5_prepare 61 = .ok (.putfield 111, 3) := by decide +kernel
theorem dX5_prepare_64 : decode cX5_prepare 64 = .ok (.aload_n 0, 1) := by decide +kernel
theorem dX5_prepare_65 : decode cX5_prepare 65 = .ok (.getfield 32, 3) := by decide +kernel
theorem dX5_prepare_68 : decode cX5_prepare 68 = .ok (.getfield 111, 3) := by decide +kernel
theorem dX5_prepare_71 : decode cX5_prepare 71 = .ok (.aload_n 0, 1) := by decide +kernel
theorem dX5_prepare_72 : decode cX5_prepare 72 = .ok (.getfield 32, 3) := by decide +kernel
theorem dX5_prepare_75 : decode cX5_prepare 75 = .ok (.getfield 114, 3) := by decide +kernel
theorem dX5_prepare_78 : decode cX5_prepare 78 = .ok (.if_icmp .lt 38, 3) := by decide +kernel
theorem dX5_prepare_81 : decode cX5_prepare 81 = .ok (.aload_n 0, 1) := by decide +kernel
theorem dX5_prepare_82 : decode cX5_prepare 82 = .ok (.getfield 32, 3) := by decide +kernel
theorem dX5_prepare_85 : decode cX5_prepare 85 = .ok (.iconst 1, 1) := by decide +kernel
theorem dX5_prepare_86 : decode cX5_prepare 86 = .ok (.putfield 81, 3) := by decide +kernel
theorem dX5_prepare_89 : decode cX5_prepare 89 = .ok (.aload_n 0, 1) := by decide +kernel
theorem dX5_prepare_90 : decode cX5_prepare 90 = .ok (.getfield 32, 3) := by decide +kernel
theorem dX5_prepare_93 : decode cX5_prepare 93 = .ok (.invokevirtual 104, 3) := by decide +kernel
theorem dX5_prepare_96 : decode cX5_prepare 96 = .ok (.aload_n 0, 1) := by decide +kernel
theorem dX5_prepare_97 : decode cX5_prepare 97 = .ok (.getfield 39, 3) := by decide +kernel
theorem dX5_prepare_100 : decode cX5_prepare 100 = .ok (.invokevirtual 117, 3) := by decide +kernel
theorem dX5_prepare_103 : decode cX5_prepare 103 = .ok (.aload_n 0, 1) := by decide +kernel
theorem dX5_prepare_104 : decode cX5_prepare 104 = .ok (.getfield 46, 3) := by decide +kernel
theorem dX5_prepare_107 : decode cX5_prepare 107 = .ok (.aload_n 0, 1) := by decide +kernel
theorem dX5_prepare_108 : decode cX5_prepare 108 = .ok (.getfield 9, 3) := by decide +kernel
theorem dX5_prepare_111 : decode cX5_prepare 111 = .ok (.bipush 100, 2) := by decide +kernel
theorem dX5_prepare_113 : decode cX5_prepare 113 = .ok (.invokevirtual 120, 3) := by decide +kernel
theorem dX5_prepare_116 : decode cX5_prepare 116 = .ok (.return_, 1) := by decide +kernel
set_option maxRecDepth 20000 in
theorem ggX5_trip_X2_append : GoodIn wsX5_trip wsX2_append := goodIn_r _ [11, 12, 13, 14, 15, 16, 17, 18, 39, 40, 41] (by decide +kernel) (by decide +kernel)
set_option maxRecDepth 20000 in
theorem gX5_trip_X2_append : GoodIn wsX5_trip (wsV RX5 120 RX2 yX2_append wsX2_append) := goodIn_app (goodIn_of _ (by decide +kernel)) ggX5_trip_X2_append
theorem dX5_trip_0 : decode cX5_trip 0 = .ok (.aload_n 0, 1) := by decide +kernel
theorem dX5_trip_1 : decode cX5_trip 1 = .ok (.getfield 32, 3) := by decide +kernel
theorem dX5_trip_4 : decode cX5_trip 4 = .ok (.iconst 0, 1) := by decide +kernel
theorem dX5_trip_5 : decode cX5_trip 5 = .ok (.putfield 81, 3) := by decide +kernel
theorem dX5_trip_8 : decode cX5_trip 8 = .ok (.aload_n 0, 1) := by decide +kernel
theorem dX5_trip_9 : decode cX5_trip 9 = .ok (.getfield 32, 3) := by decide +kernel
theorem dX5_trip_12 : decode cX5_trip 12 = .ok (.iconst 0, 1) := by decide +kernel
theorem dX5_trip_13 : decode cX5_trip 13 = .ok (.putfield 50, 3) := by decide +kernel
theorem dX5_trip_16 : decode cX5_trip 16 = .ok (.aload_n 0, 1) := by decide +kernel
theorem dX5_trip_17 : decode cX5_trip 17 = .ok (.getfield 32, 3) := by decide +kernel
theorem dX5_trip_20 : decode cX5_trip 20 = .ok (.iconst 0, 1) := by decide +kernel
theorem dX5_trip_21 : decode cX5_trip 21 = .ok (.putfield 111, 3) := by decide +kernel
theorem dX5_trip_24 : decode cX5_trip 24 = .ok (.aload_n 0, 1) := by decide +kernel
theorem dX5_trip_25 : decode cX5_trip 25 = .ok (.getfield 46, 3) := by decide +kernel
theorem dX5_trip_28 : decode cX5_trip 28 = .ok (.aload_n 0, 1) := by decide +kernel
theorem dX5_trip_29 : decode cX5_trip 29 = .ok (.getfield 9, 3) := by decide +kernel
theorem dX5_trip_32 : decode cX5_trip 32 = .ok (.iload_n 1, 1) := by decide +kernel
theorem dX5_trip_33 : decode cX5_trip 33 = .ok (.invokevirtual 120, 3) := by decide +kernel
theorem dX5_trip_36 : decode cX5_trip 36 = .ok (.return_, 1) := by decide +kernel
set_option maxRecDepth 20000 in
theorem ggX5_stopByCall_X2_append : GoodIn wsX5_stopByCall wsX2_append := goodIn_r _ [10, 11, 12, 13, 14, 15, 16, 17, 38, 39, 40] (by decide +kernel) (by decide +kernel)
set_option maxRecDepth 20000 in
theorem gX5_stopByCall_X2_append : GoodIn wsX5_stopByCall (wsV RX5 120 RX2 yX2_append wsX2_append) := goodIn_app (goodIn_of _ (by decide +kernel)) ggX5_stopByCall_X2_append
theorem dX5_stopByCall_0 : decode cX5_stopByCall 0 = .ok (.aload_n 0, 1) := by decide +kernel
theorem dX5_stopByCall_1 : decode cX5_stopByCall 1 = .ok (.getfield 32, 3) := by decide +kernel
theorem dX5_stopByCall_4 : decode cX5_stopByCall 4 = .ok (.getfield 81, 3) := by decide +kernel
theorem dX5_stopByCall_7 : decode cX5_stopByCall 7 = .ok (.iconst 1, 1) := by decide +kernel
theorem dX5_stopByCall_8 : decode cX5_stopByCall 8 = .ok (.if_icmp .ne 7, 3) := by decide +kernel
theorem dX5_stopByCall_11 : decode cX5_stopByCall 11 = .ok (.iconst 1, 1) := by decide +kernel
theorem dX5_stopByCall_12 : decode cX5_stopByCall 12 = .ok (.goto 4, 3) := by decide +kernel
theorem dX5_stopByCall_15 : decode cX5_stopByCall 15 = .ok (.iconst 0, 1) := by decide +kernel
theorem dX5_stopByCall_16 : decode cX5_stopByCall 16 = .ok (.istore_n 1, 1) := by decide +kernel
theorem dX5_stopByCall_17 : decode cX5_stopByCall 17 = .ok (.iload_n 1, 1) := by decide +kernel
theorem dX5_stopByCall_18 : decode cX5_stopByCall 18 = .ok (.ifCond .eq 16, 3) := by decide +kernel
theorem dX5_stopByCall_21 : decode cX5_stopByCall 21 = .ok (.aload_n 0, 1) := by decide +kernel
theorem dX5_stopByCall_22 : decode cX5_stopByCall 22 = .ok (.getfield 46, 3) := by decide +kernel
theorem dX5_stopByCall_25 : decode cX5_stopByCall 25 = .ok (.aload_n 0, 1) := by decide +kernel
theorem dX5_stopByCall_26 : decode cX5_stopByCall 26 = .ok (.getfield 9, 3) := by decide +kernel
theorem dX5_stopByCall_29 : decode cX5_stopByCall 29 = .ok (.bipush 102, 2) := by decide +kernel
theorem dX5_stopByCall_31 : decode cX5_stopByCall 31 = .ok (.invokevirtual 120, 3) := by decide +kernel
theorem dX5_stopByCall_34 : decode cX5_stopByCall 34 = .ok (.aload_n 0, 1) := by decide +kernel
theorem dX5_stopByCall_35 : decode cX5_stopByCall 35 = .ok (.getfield 32, 3) := by decide +kernel
theorem dX5_stopByCall_38 : decode cX5_stopByCall 38 = .ok (.iconst 2, 1) := by decide +kernel
theorem dX5_stopByCall_39 : decode cX5_stopByCall 39 = .ok (.putfield 81, 3) := by decide +kernel
theorem dX5_stopByCall_42 : decode cX5_stopByCall 42 = .ok (.aload_n 0, 1) := by decide +kernel
theorem dX5_stopByCall_43 : decode cX5_stopByCall 43 = .ok (.getfield 32, 3) := by decide +kernel
theorem dX5_stopByCall_46 : decode cX5_stopByCall 46 = .ok (.iconst 0, 1) := by decide +kernel
theorem dX5_stopByCall_47 : decode cX5_stopByCall 47 = .ok (.putfield 50, 3) := by decide +kernel
theorem dX5_stopByCall_50 : decode cX5_stopByCall 50 = .ok (.iload_n 1, 1) := by decide +kernel
theorem dX5_stopByCall_51 : decode cX5_stopByCall 51 = .ok (.ireturn, 1) := by decide +kernel
set_option maxRecDepth 20000 in
theorem ggX5_takeFrom_X1_takeFrom : GoodIn wsX5_takeFrom wsX1_takeFrom := goodIn_r _ [11, 12, 13, 14, 15, 16, 17, 18, 19, 20, 21, 22, 23, 10, 24, 93, 94, 95, 96, 97, 98, 99, 100, 101] (by decide +kernel) (by decide +kernel)
set_option maxRecDepth 20000 in
theorem gX5_takeFrom_X1_takeFrom : GoodIn wsX5_takeFrom (wsV RX5 123 RX1 yX1_takeFrom wsX1_takeFrom) := goodIn_app (goodIn_of _ (by decide +kernel)) ggX5_takeFrom_X1_takeFrom
set_option maxRecDepth 20000 in
theorem ggX5_takeFrom_X3_takeFrom : GoodIn wsX5_takeFrom wsX3_takeFrom := goodIn_r _ [29, 30, 31, 32, 33, 34, 35, 36, 37, 38, 39, 40, 41, 42, 43, 44, 45, 46, 47, 48, 49, 102, 103, 104, 105, 106, 107, 108, 109, 110] (by decide +kernel) (by decide +kernel)
set_option maxRecDepth 20000 in
theorem gX5_takeFrom_X3_takeFrom : GoodIn wsX5_takeFrom (wsV RX5 127 RX3 yX3_takeFrom wsX3_takeFrom) := goodIn_app (goodIn_of _ (by decide +kernel)) ggX5_takeFrom_X3_takeFrom
set_option maxRecDepth 20000 in
theorem ggX5_takeFrom_X0_takeFrom : GoodIn wsX5_takeFrom wsX0_takeFrom := goodIn_r _ [54, 55, 56, 57, 58, 59, 60, 61, 62, 63, 64, 65, 66, 67, 68, 111, 112, 113, 114, 115, 116, 117, 118, 119, 120, 121, 122, 123, 124] (by decide +kernel) (by decide +kernel)
set_option maxRecDepth 20000 in
theorem gX5_takeFrom_X0_takeFrom : GoodIn wsX5_takeFrom (wsV RX5 130 RX0 yX0_takeFrom wsX0_takeFrom) := goodIn_app (goodIn_of _ (by decide +kernel)) ggX5_takeFrom_X0_takeFrom
set_option maxRecDepth 20000 in
theorem ggX5_takeFrom_X4_takeFrom : GoodIn wsX5_takeFrom wsX4_takeFrom := goodIn_r _ [73, 74, 75, 76, 77, 78, 39, 40, 41, 42, 43, 44, 45, 46, 47, 48, 49, 125, 126, 127, 128, 129] (by decide +kernel) (by decide +kernel)
set_option maxRecDepth 20000 in
theorem gX5_takeFrom_X4_takeFrom : GoodIn wsX5_takeFrom (wsV RX5 133 RX4 yX4_takeFrom wsX4_takeFrom) := goodIn_app (goodIn_of _ (by decide +kernel)) ggX5_takeFrom_X4_takeFrom
set_option maxRecDepth 20000 in
theorem ggX5_takeFrom_X2_takeFrom : GoodIn wsX5_takeFrom wsX2_takeFrom := goodIn_r _ [83, 84, 85, 86, 39, 40, 41, 42, 43, 44, 45, 46, 47, 48, 49, 130, 131, 132] (by decide +kernel) (by decide +kernel)
set_option maxRecDepth 20000 in
theorem gX5_takeFrom_X2_takeFrom : GoodIn wsX5_takeFrom (wsV RX5 136 RX2 yX2_takeFrom wsX2_takeFrom) := goodIn_app (goodIn_of _ (by decide +kernel)) ggX5_takeFrom_X2_takeFrom
theorem dX5_takeFrom_0 : decode cX5_takeFrom 0 = .ok (.aload_n 0, 1) := by decide +kernel
theorem dX5_takeFrom_1 : decode cX5_takeFrom 1 = .ok (.aload_n 1, 1) := by decide +kernel
theorem dX5_takeFrom_2 : decode cX5_takeFrom 2 = .ok (.getfield 9, 3) := by decide +kernel
theorem dX5_takeFrom_5 : decode cX5_takeFrom 5 = .ok (.putfield 9, 3) := by decide +kernel
theorem dX5_takeFrom_8 : decode cX5_takeFrom 8 = .ok (.aload_n 0, 1) := by decide +kernel
theorem dX5_takeFrom_9 : decode cX5_takeFrom 9 = .ok (.getfield 18, 3) := by decide +kernel
theorem dX5_takeFrom_12 : decode cX5_takeFrom 12 = .ok (.aload_n 1, 1) := by decide +kernel
theorem dX5_takeFrom_13 : decode cX5_takeFrom 13 = .ok (.getfield 18, 3) := by decide +kernel
theorem dX5_takeFrom_16 : decode cX5_takeFrom 16 = .ok (.invokevirtual 123, 3) := by decide +kernel
theorem dX5_takeFrom_19 : decode cX5_takeFrom 19 = .ok (.aload_n 0, 1) := by decide +kernel
theorem dX5_takeFrom_20 : decode cX5_takeFrom 20 = .ok (.getfield 25, 3) := by decide +kernel
theorem dX5_takeFrom_23 : decode cX5_takeFrom 23 = .ok (.aload_n 1, 1) := by decide +kernel
theorem dX5_takeFrom_24 : decode cX5_takeFrom 24 = .ok (.getfield 25, 3) := by decide +kernel
theorem dX5_takeFrom_27 : decode cX5_takeFrom 27 = .ok (.invokevirtual 127, 3) := by decide +kernel
theorem dX5_takeFrom_30 : decode cX5_takeFrom 30 = .ok (.aload_n 0, 1) := by decide +kernel
theorem dX5_takeFrom_31 : decode cX5_takeFrom 31 = .ok (.getfield 32, 3) := by decide +kernel
theorem dX5_takeFrom_34 : decode cX5_takeFrom 34 = .ok (.aload_n 1, 1) := by decide +kernel
theorem dX5_takeFrom_35 : decode cX5_takeFrom 35 = .ok (.getfield 32, 3) := by decide +kernel
theorem dX5_takeFrom_38 : decode cX5_takeFrom 38 = .ok (.invokevirtual 130, 3) := by decide +kernel
theorem dX5_takeFrom_41 : decode cX5_takeFrom 41 = .ok (.aload_n 0, 1) := by decide +kernel
theorem dX5_takeFrom_42 : decode cX5_takeFrom 42 = .ok (.getfield 39, 3) := by decide +kernel
theorem dX5_takeFrom_45 : decode cX5_takeFrom 45 = .ok (.aload_n 1, 1) := by decide +kernel
theorem dX5_takeFrom_46 : decode cX5_takeFrom 46 = .ok (.getfield 39, 3) := by decide +kernel
theorem dX5_takeFrom_49 : decode cX5_takeFrom 49 = .ok (.invokevirtual 133, 3) := by decide +kernel
theorem dX5_takeFrom_52 : decode cX5_takeFrom 52 = .ok (.aload_n 0, 1) := by decide +kernel
theorem dX5_takeFrom_53 : decode cX5_takeFrom 53 = .ok (.getfield 46, 3) := by decide +kernel
theorem dX5_takeFrom_56 : decode cX5_takeFrom 56 = .ok (.aload_n 1, 1) := by decide +kernel
theorem dX5_takeFrom_57 : decode cX5_takeFrom 57 = .ok (.getfield 46, 3) := by decide +kernel
theorem dX5_takeFrom_60 : decode cX5_takeFrom 60 = .ok (.invokevirtual 136, 3) := by decide +kernel
theorem dX5_takeFrom_63 : decode cX5_takeFrom 63 = .ok (.return_, 1) := by decide +kernel
set_option maxRecDepth 20000 in
theorem ggX6_init_X5_init : GoodIn wsX6_init wsX5_init := goodIn_r _ [11, 12, 2, 3, 13, 14, 15, 16, 17, 18, 19, 20, 21, 22, 23, 24, 25, 26, 27, 28, 29, 30, 31, 32, 33, 34, 35, 36, 37, 38, 39, 40, 41, 42, 43, 44, 45, 46, 47, 48, 49, 50, 51, 52, 53, 54, 55, 56, 57, 58, 59, 60, 61, 62, 63, 64, 65, 66, 67, 68, 69, 70, 71, 72, 73, 74, 75, 76, 77, 78, 79, 80, 81, 82, 83, 84, 85, 86, 87, 88, 89, 90, 91, 92, 93, 94, 95, 96, 97, 98, 99, 100, 104, 105, 106, 107, 108, 109, 110, 111, 112, 113, 114, 115, 116, 117, 118, 119, 120, 121, 122, 123, 124, 125, 126, 127, 128, 129, 130, 131, 132, 133, 134, 135, 136, 137, 138, 139, 140, 141, 142, 143] (by decide +kernel) (by decide +kernel)
set_option maxRecDepth 20000 in
theorem gX6_init_X5_init_n9 : GoodIn wsX6_init (wsX5_init) := ggX6_init_X5_init
theorem dX6_init_0 : decode cX6_init 0 = .ok (.aload_n 0, 1) := by decide +kernel
theorem dX6_init_1 : decode cX6_init 1 = .ok (.invokespecial 1, 3) := by decide +kernel
theorem dX6_init_4 : decode cX6_init 4 = .ok (.aload_n 0, 1) := by decide +kernel
theorem dX6_init_5 : decode cX6_init 5 = .ok (.new 7, 3) := by decide +kernel
theorem dX6_init_8 : decode cX6_init 8 = .ok (.dup, 1) := by decide +kernel
theorem dX6_init_9 : decode cX6_init 9 = .ok (.invokespecial 9, 3) := by decide +kernel
theorem dX6_init_12 : decode cX6_init 12 = .ok (.putfield 10, 3) := by decide +kernel
theorem dX6_init_15 : decode cX6_init 15 = .ok (.aload_n 0, 1) := by decide +kernel
theorem dX6_init_16 : decode cX6_init 16 = .ok (.new 7, 3) := by decide +kernel
theorem dX6_init_19 : decode cX6_init 19 = .ok (.dup, 1) := by decide +kernel
theorem dX6_init_20 : decode cX6_init 20 = .ok (.invokespecial 9, 3) := by decide +kernel
theorem dX6_init_23 : decode cX6_init 23 = .ok (.putfield 16, 3) := by decide +kernel
theorem dX6_init_26 : decode cX6_init 26 = .ok (.aload_n 0, 1) := by decide +kernel
theorem dX6_init_27 : decode cX6_init 27 = .ok (.iconst 2, 1) := by decide +kernel
theorem dX6_init_28 : decode cX6_init 28 = .ok (.anewarray 7, 3) := by decide +kernel
theorem dX6_init_31 : decode cX6_init 31 = .ok (.putfield 19, 3) := by decide +kernel
theorem dX6_init_34 : decode cX6_init 34 = .ok (.return_, 1) := by decide +kernel
set_option maxRecDepth 20000 in
theorem ggX6_setGrid_X6_outside : GoodIn wsX6_setGrid wsX6_outside := goodIn_r _ [12] (by decide +kernel) (by decide +kernel)
set_option maxRecDepth 20000 in
theorem gX6_setGrid_X6_outside : GoodIn wsX6_setGrid (va_wsS RX6 23 yX6_outside wsX6_outside) := goodIn_app (goodIn_of _ (by decide +kernel)) ggX6_setGrid_X6_outside
theorem dX6_setGrid_0 : decode cX6_setGrid 0 = .ok (.iload_n 1, 1) := by decide +kernel
theorem dX6_setGrid_1 : decode cX6_setGrid 1 = .ok (.iconst 0, 1) := by decide +kernel
theorem dX6_setGrid_2 : decode cX6_setGrid 2 = .ok (.sipush 400, 3) := by decide +kernel
theorem dX6_setGrid_5 : decode cX6_setGrid 5 = .ok (.invokestatic 23, 3) := by decide +kernel
theorem dX6_setGrid_8 : decode cX6_setGrid 8 = .ok (.ifCond .ne 14, 3) := by decide +kernel
theorem dX6_setGrid_11 : decode cX6_setGrid 11 = .ok (.iload_n 2, 1) := by decide +kernel
theorem dX6_setGrid_12 : decode cX6_setGrid 12 = .ok (.ldc 27, 2) := by decide +kernel
theorem dX6_setGrid_14 : decode cX6_setGrid 14 = .ok (.ldc 28, 2) := by decide +kernel
theorem dX6_setGrid_16 : decode cX6_setGrid 16 = .ok (.invokestatic 23, 3) := by decide +kernel
theorem dX6_setGrid_19 : decode cX6_setGrid 19 = .ok (.ifCond .eq 13, 3) := by decide +kernel
theorem dX6_setGrid_22 : decode cX6_setGrid 22 = .ok (.new 29, 3) := by decide +kernel
theorem dX6_setGrid_25 : decode cX6_setGrid 25 = .ok (.dup, 1) := by decide +kernel
theorem dX6_setGrid_26 : decode cX6_setGrid 26 = .ok (.ldc 31, 2) := by decide +kernel
theorem dX6_setGrid_28 : decode cX6_setGrid 28 = .ok (.invokespecial 33, 3) := by decide +kernel
theorem dX6_setGrid_31 : decode cX6_setGrid 31 = .ok (.athrow, 1) := by decide +kernel
theorem dX6_setGrid_32 : decode cX6_setGrid 32 = .ok (.aload_n 0, 1) := by decide +kernel
theorem dX6_setGrid_33 : decode cX6_setGrid 33 = .ok (.getfield 10, 3) := by decide +kernel
theorem dX6_setGrid_36 : decode cX6_setGrid 36 = .ok (.getfield 36, 3) := by decide +kernel
theorem dX6_setGrid_39 : decode cX6_setGrid 39 = .ok (.iload_n 1, 1) := by decide +kernel
theorem dX6_setGrid_40 : decode cX6_setGrid 40 = .ok (.putfield 40, 3) := by decide +kernel
theorem dX6_setGrid_43 : decode cX6_setGrid 43 = .ok (.aload_n 0, 1) := by decide +kernel
theorem dX6_setGrid_44 : decode cX6_setGrid 44 = .ok (.getfield 10, 3) := by decide +kernel
theorem dX6_setGrid_47 : decode cX6_setGrid 47 = .ok (.getfield 36, 3) := by decide +kernel
theorem dX6_setGrid_50 : decode cX6_setGrid 50 = .ok (.iload_n 2, 1) := by decide +kernel
theorem dX6_setGrid_51 : decode cX6_setGrid 51 = .ok (.putfield 46, 3) := by decide +kernel
theorem dX6_setGrid_54 : decode cX6_setGrid 54 = .ok (.return_, 1) := by decide +kernel
set_option maxRecDepth 20000 in
theorem ggX6_jump_X6_outside : GoodIn wsX6_jump wsX6_outside := goodIn_r _ [11] (by decide +kernel) (by decide +kernel)
set_option maxRecDepth 20000 in
theorem gX6_jump_X6_outside : GoodIn wsX6_jump (va_wsS RX6 23 yX6_outside wsX6_outside) := goodIn_app (goodIn_of _ (by decide +kernel)) ggX6_jump_X6_outside
set_option maxRecDepth 20000 in
theorem ggX6_jump_X1_turn : GoodIn wsX6_jump wsX1_turn := goodIn_r _ [16, 17, 18, 19, 20, 21, 22, 32, 33, 34, 35, 36, 37, 38, 39, 40] (by decide +kernel) (by decide +kernel)
set_option maxRecDepth 20000 in
theorem gX6_jump_X1_turn : GoodIn wsX6_jump (wsV RX6 53 RX1 yX1_turn wsX1_turn) := goodIn_app (goodIn_of _ (by decide +kernel)) ggX6_jump_X1_turn
theorem dX6_jump_0 : decode cX6_jump 0 = .ok (.iload_n 1, 1) := by decide +kernel
theorem dX6_jump_1 : decode cX6_jump 1 = .ok (.ldc 49, 2) := by decide +kernel
theorem dX6_jump_3 : decode cX6_jump 3 = .ok (.ldc 50, 2) := by decide +kernel
theorem dX6_jump_5 : decode cX6_jump 5 = .ok (.invokestatic 23, 3) := by decide +kernel
theorem dX6_jump_8 : decode cX6_jump 8 = .ok (.ifCond .eq 13, 3) := by decide +kernel
theorem dX6_jump_11 : decode cX6_jump 11 = .ok (.new 29, 3) := by decide +kernel
theorem dX6_jump_14 : decode cX6_jump 14 = .ok (.dup, 1) := by decide +kernel
theorem dX6_jump_15 : decode cX6_jump 15 = .ok (.ldc 51, 2) := by decide +kernel
theorem dX6_jump_17 : decode cX6_jump 17 = .ok (.invokespecial 33, 3) := by decide +kernel
theorem dX6_jump_20 : decode cX6_jump 20 = .ok (.athrow, 1) := by decide +kernel
theorem dX6_jump_21 : decode cX6_jump 21 = .ok (.aload_n 0, 1) := by decide +kernel
theorem dX6_jump_22 : decode cX6_jump 22 = .ok (.getfield 10, 3) := by decide +kernel
theorem dX6_jump_25 : decode cX6_jump 25 = .ok (.getfield 36, 3) := by decide +kernel
theorem dX6_jump_28 : decode cX6_jump 28 = .ok (.iload_n 1, 1) := by decide +kernel
theorem dX6_jump_29 : decode cX6_jump 29 = .ok (.invokevirtual 53, 3) := by decide +kernel
theorem dX6_jump_32 : decode cX6_jump 32 = .ok (.aload_n 0, 1) := by decide +kernel
theorem dX6_jump_33 : decode cX6_jump 33 = .ok (.getfield 10, 3) := by decide +kernel
theorem dX6_jump_36 : decode cX6_jump 36 = .ok (.getfield 36, 3) := by decide +kernel
theorem dX6_jump_39 : decode cX6_jump 39 = .ok (.getfield 57, 3) := by decide +kernel
theorem dX6_jump_42 : decode cX6_jump 42 = .ok (.ireturn, 1) := by decide +kernel
theorem dX6_connect_0 : decode cX6_connect 0 = .ok (.aload_n 0, 1) := by decide +kernel
theorem dX6_connect_1 : decode cX6_connect 1 = .ok (.getfield 10, 3) := by decide +kernel
theorem dX6_connect_4 : decode cX6_connect 4 = .ok (.getfield 36, 3) := by decide +kernel
theorem dX6_connect_7 : decode cX6_connect 7 = .ok (.getfield 60, 3) := by decide +kernel
theorem dX6_connect_10 : decode cX6_connect 10 = .ok (.istore_n 2, 1) := by decide +kernel
theorem dX6_connect_11 : decode cX6_connect 11 = .ok (.aload_n 0, 1) := by decide +kernel
theorem dX6_connect_12 : decode cX6_connect 12 = .ok (.getfield 10, 3) := by decide +kernel
theorem dX6_connect_15 : decode cX6_connect 15 = .ok (.getfield 36, 3) := by decide +kernel
theorem dX6_connect_18 : decode cX6_connect 18 = .ok (.iload_n 1, 1) := by decide +kernel
theorem dX6_connect_19 : decode cX6_connect 19 = .ok (.putfield 60, 3) := by decide +kernel
theorem dX6_connect_22 : decode cX6_connect 22 = .ok (.iload_n 2, 1) := by decide +kernel
theorem dX6_connect_23 : decode cX6_connect 23 = .ok (.ireturn, 1) := by decide +kernel
set_option maxRecDepth 20000 in
theorem ggX6_setLoad_X6_badIsland : GoodIn wsX6_setLoad wsX6_badIsland := goodIn_r _ [8, 9, 10, 11, 12, 7, 13] (by decide +kernel) (by decide +kernel)
set_option maxRecDepth 20000 in
theorem gX6_setLoad_X6_badIsland : GoodIn wsX6_setLoad (va_wsS RX6 64 yX6_badIsland wsX6_badIsland) := goodIn_app (goodIn_of _ (by decide +kernel)) ggX6_setLoad_X6_badIsland
set_option maxRecDepth 20000 in
theorem ggX6_setLoad_X1_becomeIsland : GoodIn wsX6_setLoad wsX1_becomeIsland := goodIn_r _ [18, 19, 20, 21, 31, 32, 33, 34, 35, 36, 37, 38, 39] (by decide +kernel) (by decide +kernel)
set_option maxRecDepth 20000 in
theorem gX6_setLoad_X1_becomeIsland : GoodIn wsX6_setLoad (wsV RX6 69 RX1 yX1_becomeIsland wsX1_becomeIsland) := goodIn_app (goodIn_of _ (by decide +kernel)) ggX6_setLoad_X1_becomeIsland
theorem dX6_setLoad_0 : decode cX6_setLoad 0 = .ok (.iload_n 1, 1) := by decide +kernel
theorem dX6_setLoad_1 : decode cX6_setLoad 1 = .ok (.iload_n 2, 1) := by decide +kernel
theorem dX6_setLoad_2 : decode cX6_setLoad 2 = .ok (.iload_n 3, 1) := by decide +kernel
theorem dX6_setLoad_3 : decode cX6_setLoad 3 = .ok (.invokestatic 64, 3) := by decide +kernel
theorem dX6_setLoad_6 : decode cX6_setLoad 6 = .ok (.ifCond .eq 13, 3) := by decide +kernel
theorem dX6_setLoad_9 : decode cX6_setLoad 9 = .ok (.new 29, 3) := by decide +kernel
theorem dX6_setLoad_12 : decode cX6_setLoad 12 = .ok (.dup, 1) := by decide +kernel
theorem dX6_setLoad_13 : decode cX6_setLoad 13 = .ok (.ldc 67, 2) := by decide +kernel
theorem dX6_setLoad_15 : decode cX6_setLoad 15 = .ok (.invokespecial 33, 3) := by decide +kernel
theorem dX6_setLoad_18 : decode cX6_setLoad 18 = .ok (.athrow, 1) := by decide +kernel
theorem dX6_setLoad_19 : decode cX6_setLoad 19 = .ok (.aload_n 0, 1) := by decide +kernel
theorem dX6_setLoad_20 : decode cX6_setLoad 20 = .ok (.getfield 10, 3) := by decide +kernel
theorem dX6_setLoad_23 : decode cX6_setLoad 23 = .ok (.getfield 36, 3) := by decide +kernel
theorem dX6_setLoad_26 : decode cX6_setLoad 26 = .ok (.iload_n 1, 1) := by decide +kernel
theorem dX6_setLoad_27 : decode cX6_setLoad 27 = .ok (.iload_n 2, 1) := by decide +kernel
theorem dX6_setLoad_28 : decode cX6_setLoad 28 = .ok (.iload_n 3, 1) := by decide +kernel
theorem dX6_setLoad_29 : decode cX6_setLoad 29 = .ok (.invokevirtual 69, 3) := by decide +kernel
theorem dX6_setLoad_32 : decode cX6_setLoad 32 = .ok (.return_, 1) := by decide +kernel
set_option maxRecDepth 20000 in
theorem ggX6_setLoop_X6_outside : GoodIn wsX6_setLoop wsX6_outside := goodIn_r _ [10] (by decide +kernel) (by decide +kernel)
set_option maxRecDepth 20000 in
theorem gX6_setLoop_X6_outside : GoodIn wsX6_setLoop (va_wsS RX6 23 yX6_outside wsX6_outside) := goodIn_app (goodIn_of _ (by decide +kernel)) ggX6_setLoop_X6_outside
theorem dX6_setLoop_0 : decode cX6_setLoop 0 = .ok (.iload_n 1, 1) := by decide +kernel
theorem dX6_setLoop_1 : decode cX6_setLoop 1 = .ok (.iconst 1, 1) := by decide +kernel
theorem dX6_setLoop_2 : decode cX6_setLoop 2 = .ok (.sipush 1000, 3) := by decide +kernel
theorem dX6_setLoop_5 : decode cX6_setLoop 5 = .ok (.invokestatic 23, 3) := by decide +kernel
theorem dX6_setLoop_8 : decode cX6_setLoop 8 = .ok (.ifCond .ne 14, 3) := by decide +kernel
theorem dX6_setLoop_11 : decode cX6_setLoop 11 = .ok (.iload_n 2, 1) := by decide +kernel
theorem dX6_setLoop_12 : decode cX6_setLoop 12 = .ok (.iconst 0, 1) := by decide +kernel
theorem dX6_setLoop_13 : decode cX6_setLoop 13 = .ok (.sipush 500, 3) := by decide +kernel
theorem dX6_setLoop_16 : decode cX6_setLoop 16 = .ok (.invokestatic 23, 3) := by decide +kernel
theorem dX6_setLoop_19 : decode cX6_setLoop 19 = .ok (.ifCond .eq 13, 3) := by decide +kernel
theorem dX6_setLoop_22 : decode cX6_setLoop 22 = .ok (.new 29, 3) := by decide +kernel
theorem dX6_setLoop_25 : decode cX6_setLoop 25 = .ok (.dup, 1) := by decide +kernel
theorem dX6_setLoop_26 : decode cX6_setLoop 26 = .ok (.ldc 73, 2) := by decide +kernel
theorem dX6_setLoop_28 : decode cX6_setLoop 28 = .ok (.invokespecial 33, 3) := by decide +kernel
theorem dX6_setLoop_31 : decode cX6_setLoop 31 = .ok (.athrow, 1) := by decide +kernel
theorem dX6_setLoop_32 : decode cX6_setLoop 32 = .ok (.aload_n 0, 1) := by decide +kernel
theorem dX6_setLoop_33 : decode cX6_setLoop 33 = .ok (.getfield 10, 3) := by decide +kernel
theorem dX6_setLoop_36 : decode cX6_setLoop 36 = .ok (.getfield 75, 3) := by decide +kernel
theorem dX6_setLoop_39 : decode cX6_setLoop 39 = .ok (.iload_n 1, 1) := by decide +kernel
theorem dX6_setLoop_40 : decode cX6_setLoop 40 = .ok (.putfield 79, 3) := by decide +kernel
theorem dX6_setLoop_43 : decode cX6_setLoop 43 = .ok (.aload_n 0, 1) := by decide +kernel
theorem dX6_setLoop_44 : decode cX6_setLoop 44 = .ok (.getfield 10, 3) := by decide +kernel
theorem dX6_setLoop_47 : decode cX6_setLoop 47 = .ok (.getfield 75, 3) := by decide +kernel
theorem dX6_setLoop_50 : decode cX6_setLoop 50 = .ok (.iload_n 2, 1) := by decide +kernel
theorem dX6_setLoop_51 : decode cX6_setLoop 51 = .ok (.putfield 84, 3) := by decide +kernel
theorem dX6_setLoop_54 : decode cX6_setLoop 54 = .ok (.return_, 1) := by decide +kernel
set_option maxRecDepth 20000 in
theorem ggX6_setLock_X6_outside : GoodIn wsX6_setLock wsX6_outside := goodIn_r _ [11] (by decide +kernel) (by decide +kernel)
set_option maxRecDepth 20000 in
theorem gX6_setLock_X6_outside : GoodIn wsX6_setLock (va_wsS RX6 23 yX6_outside wsX6_outside) := goodIn_app (goodIn_of _ (by decide +kernel)) ggX6_setLock_X6_outside
theorem dX6_setLock_0 : decode cX6_setLock 0 = .ok (.iload_n 1, 1) := by decide +kernel
theorem dX6_setLock_1 : decode cX6_setLock 1 = .ok (.bipush 100, 2) := by decide +kernel
theorem dX6_setLock_3 : decode cX6_setLock 3 = .ok (.ldc 87, 2) := by decide +kernel
theorem dX6_setLock_5 : decode cX6_setLock 5 = .ok (.invokestatic 23, 3) := by decide +kernel
theorem dX6_setLock_8 : decode cX6_setLock 8 = .ok (.ifCond .ne 14, 3) := by decide +kernel
theorem dX6_setLock_11 : decode cX6_setLock 11 = .ok (.iload_n 2, 1) := by decide +kernel
theorem dX6_setLock_12 : decode cX6_setLock 12 = .ok (.iconst 1, 1) := by decide +kernel
theorem dX6_setLock_13 : decode cX6_setLock 13 = .ok (.sipush 500, 3) := by decide +kernel
theorem dX6_setLock_16 : decode cX6_setLock 16 = .ok (.invokestatic 23, 3) := by decide +kernel
theorem dX6_setLock_19 : decode cX6_setLock 19 = .ok (.ifCond .eq 13, 3) := by decide +kernel
theorem dX6_setLock_22 : decode cX6_setLock 22 = .ok (.new 29, 3) := by decide +kernel
theorem dX6_setLock_25 : decode cX6_setLock 25 = .ok (.dup, 1) := by decide +kernel
theorem dX6_setLock_26 : decode cX6_setLock 26 = .ok (.ldc 88, 2) := by decide +kernel
theorem dX6_setLock_28 : decode cX6_setLock 28 = .ok (.invokespecial 33, 3) := by decide +kernel
theorem dX6_setLock_31 : decode cX6_setLock 31 = .ok (.athrow, 1) := by decide +kernel
theorem dX6_setLock_32 : decode cX6_setLock 32 = .ok (.aload_n 0, 1) := by decide +kernel
theorem dX6_setLock_33 : decode cX6_setLock 33 = .ok (.getfield 10, 3) := by decide +kernel
theorem dX6_setLock_36 : decode cX6_setLock 36 = .ok (.getfield 75, 3) := by decide +kernel
theorem dX6_setLock_39 : decode cX6_setLock 39 = .ok (.iload_n 1, 1) := by decide +kernel
theorem dX6_setLock_40 : decode cX6_setLock 40 = .ok (.putfield 90, 3) := by decide +kernel
theorem dX6_setLock_43 : decode cX6_setLock 43 = .ok (.aload_n 0, 1) := by decide +kernel
theorem dX6_setLock_44 : decode cX6_setLock 44 = .ok (.getfield 10, 3) := by decide +kernel
theorem dX6_setLock_47 : decode cX6_setLock 47 = .ok (.getfield 75, 3) := by decide +kernel
theorem dX6_setLock_50 : decode cX6_setLock 50 = .ok (.iload_n 2, 1) := by decide +kernel
theorem dX6_setLock_51 : decode cX6_setLock 51 = .ok (.putfield 93, 3) := by decide +kernel
theorem dX6_setLock_54 : decode cX6_setLock 54 = .ok (.return_, 1) := by decide +kernel
set_option maxRecDepth 20000 in
theorem ggX6_setWindow_X6_outside : GoodIn wsX6_setWindow wsX6_outside := goodIn_r _ [14] (by decide +kernel) (by decide +kernel)
set_option maxRecDepth 20000 in
theorem gX6_setWindow_X6_outside : GoodIn wsX6_setWindow (va_wsS RX6 23 yX6_outside wsX6_outside) := goodIn_app (goodIn_of _ (by decide +kernel)) ggX6_setWindow_X6_outside
theorem dX6_setWindow_0 : decode cX6_setWindow 0 = .ok (.iload_n 1, 1) := by decide +kernel
theorem dX6_setWindow_1 : decode cX6_setWindow 1 = .ok (.iconst 0, 1) := by decide +kernel
theorem dX6_setWindow_2 : decode cX6_setWindow 2 = .ok (.sipush 400, 3) := by decide +kernel
theorem dX6_setWindow_5 : decode cX6_setWindow 5 = .ok (.invokestatic 23, 3) := by decide +kernel
theorem dX6_setWindow_8 : decode cX6_setWindow 8 = .ok (.ifCond .ne 36, 3) := by decide +kernel
theorem dX6_setWindow_11 : decode cX6_setWindow 11 = .ok (.iload_n 2, 1) := by decide +kernel
theorem dX6_setWindow_12 : decode cX6_setWindow 12 = .ok (.iload_n 1, 1) := by decide +kernel
theorem dX6_setWindow_13 : decode cX6_setWindow 13 = .ok (.sipush 400, 3) := by decide +kernel
theorem dX6_setWindow_16 : decode cX6_setWindow 16 = .ok (.invokestatic 23, 3) := by decide +kernel
theorem dX6_setWindow_19 : decode cX6_setWindow 19 = .ok (.ifCond .ne 25, 3) := by decide +kernel
theorem dX6_setWindow_22 : decode cX6_setWindow 22 = .ok (.iload_n 3, 1) := by decide +kernel
theorem dX6_setWindow_23 : decode cX6_setWindow 23 = .ok (.ldc 96, 2) := by decide +kernel
theorem dX6_setWindow_25 : decode cX6_setWindow 25 = .ok (.ldc 97, 2) := by decide +kernel
theorem dX6_setWindow_27 : decode cX6_setWindow 27 = .ok (.invokestatic 23, 3) := by decide +kernel
theorem dX6_setWindow_30 : decode cX6_setWindow 30 = .ok (.ifCond .ne 14, 3) := by decide +kernel
theorem dX6_setWindow_33 : decode cX6_setWindow 33 = .ok (.iload 4, 2) := by decide +kernel
theorem dX6_setWindow_35 : decode cX6_setWindow 35 = .ok (.iload_n 3, 1) := by decide +kernel
theorem dX6_setWindow_36 : decode cX6_setWindow 36 = .ok (.ldc 97, 2) := by decide +kernel
theorem dX6_setWindow_38 : decode cX6_setWindow 38 = .ok (.invokestatic 23, 3) := by decide +kernel
theorem dX6_setWindow_41 : decode cX6_setWindow 41 = .ok (.ifCond .eq 13, 3) := by decide +kernel
theorem dX6_setWindow_44 : decode cX6_setWindow 44 = .ok (.new 29, 3) := by decide +kernel
theorem dX6_setWindow_47 : decode cX6_setWindow 47 = .ok (.dup, 1) := by decide +kernel
theorem dX6_setWindow_48 : decode cX6_setWindow 48 = .ok (.ldc 98, 2) := by decide +kernel
theorem dX6_setWindow_50 : decode cX6_setWindow 50 = .ok (.invokespecial 33, 3) := by decide +kernel
theorem dX6_setWindow_53 : decode cX6_setWindow 53 = .ok (.athrow, 1) := by decide +kernel
theorem dX6_setWindow_54 : decode cX6_setWindow 54 = .ok (.aload_n 0, 1) := by decide +kernel
theorem dX6_setWindow_55 : decode cX6_setWindow 55 = .ok (.getfield 10, 3) := by decide +kernel
theorem dX6_setWindow_58 : decode cX6_setWindow 58 = .ok (.getfield 100, 3) := by decide +kernel
theorem dX6_setWindow_61 : decode cX6_setWindow 61 = .ok (.astore 5, 2) := by decide +kernel
theorem dX6_setWindow_63 : decode cX6_setWindow 63 = .ok (.aload 5, 2) := by decide +kernel
theorem dX6_setWindow_65 : decode cX6_setWindow 65 = .ok (.iload_n 1, 1) := by decide +kernel
theorem dX6_setWindow_66 : decode cX6_setWindow 66 = .ok (.putfield 104, 3) := by decide +kernel
theorem dX6_setWindow_69 : decode cX6_setWindow 69 = .ok (.aload 5, 2) := by decide +kernel
theorem dX6_setWindow_71 : decode cX6_setWindow 71 = .ok (.iload_n 2, 1) := by decide +kernel
theorem dX6_setWindow_72 : decode cX6_setWindow 72 = .ok (.putfield 109, 3) := by decide +kernel
theorem dX6_setWindow_75 : decode cX6_setWindow 75 = .ok (.aload 5, 2) := by decide +kernel
theorem dX6_setWindow_77 : decode cX6_setWindow 77 = .ok (.iload_n 3, 1) := by decide +kernel
theorem dX6_setWindow_78 : decode cX6_setWindow 78 = .ok (.putfield 112, 3) := by decide +kernel
theorem dX6_setWindow_81 : decode cX6_setWindow 81 = .ok (.aload 5, 2) := by decide +kernel
theorem dX6_setWindow_83 : decode cX6_setWindow 83 = .ok (.iload 4, 2) := by decide +kernel
theorem dX6_setWindow_85 : decode cX6_setWindow 85 = .ok (.putfield 115, 3) := by decide +kernel
theorem dX6_setWindow_88 : decode cX6_setWindow 88 = .ok (.return_, 1) := by decide +kernel
set_option maxRecDepth 20000 in
theorem ggX6_setPower_X6_outside : GoodIn wsX6_setPower wsX6_outside := goodIn_r _ [11] (by decide +kernel) (by decide +kernel)
set_option maxRecDepth 20000 in
theorem gX6_setPower_X6_outside : GoodIn wsX6_setPower (va_wsS RX6 23 yX6_outside wsX6_outside) := goodIn_app (goodIn_of _ (by decide +kernel)) ggX6_setPower_X6_outside
theorem dX6_setPower_0 : decode cX6_setPower 0 = .ok (.iload_n 1, 1) := by decide +kernel
theorem dX6_setPower_1 : decode cX6_setPower 1 = .ok (.iconst 1, 1) := by decide +kernel
theorem dX6_setPower_2 : decode cX6_setPower 2 = .ok (.sipush 10000, 3) := by decide +kernel
theorem dX6_setPower_5 : decode cX6_setPower 5 = .ok (.invokestatic 23, 3) := by decide +kernel
theorem dX6_setPower_8 : decode cX6_setPower 8 = .ok (.ifCond .ne 25, 3) := by decide +kernel
theorem dX6_setPower_11 : decode cX6_setPower 11 = .ok (.iload_n 2, 1) := by decide +kernel
end
section
theorem dX6_setPower_12 : decode cX6_setPower 12 = .ok (.iconst 1, 1) := by decide +kernel
theorem dX6_setPower_13 : decode cX6_setPower 13 = .ok (.sipush 5000, 3) := by decide +kernel
theorem dX6_setPower_16 : decode cX6_setPower 16 = .ok (.invokestatic 23, 3) := by decide +kernel
theorem dX6_setPower_19 : decode cX6_setPower 19 = .ok (.ifCond .ne 14, 3) := by decide +kernel
theorem dX6_setPower_22 : decode cX6_setPower 22 = .ok (.iload_n 3, 1) := by decide +kernel
theorem dX6_setPower_23 : decode cX6_setPower 23 = .ok (.iconst 1, 1) := by decide +kernel
theorem dX6_setPower_24 : decode cX6_setPower 24 = .ok (.sipush 5000, 3) := by decide +kernel
theorem dX6_setPower_27 : decode cX6_setPower 27 = .ok (.invokestatic 23, 3) := by decide +kernel
theorem dX6_setPower_30 : decode cX6_setPower 30 = .ok (.ifCond .eq 13, 3) := by decide +kernel
theorem dX6_setPower_33 : decode cX6_setPower 33 = .ok (.new 29, 3) := by decide +kernel
theorem dX6_setPower_36 : decode cX6_setPower 36 = .ok (.dup, 1) := by decide +kernel
theorem dX6_setPower_37 : decode cX6_setPower 37 = .ok (.ldc 118, 2) := by decide +kernel
theorem dX6_setPower_39 : decode cX6_setPower 39 = .ok (.invokespecial 33, 3) := by decide +kernel
theorem dX6_setPower_42 : decode cX6_setPower 42 = .ok (.athrow, 1) := by decide +kernel
theorem dX6_setPower_43 : decode cX6_setPower 43 = .ok (.aload_n 0, 1) := by decide +kernel
theorem dX6_setPower_44 : decode cX6_setPower 44 = .ok (.getfield 10, 3) := by decide +kernel
theorem dX6_setPower_47 : decode cX6_setPower 47 = .ok (.getfield 100, 3) := by decide +kernel
theorem dX6_setPower_50 : decode cX6_setPower 50 = .ok (.iload_n 1, 1) := by decide +kernel
theorem dX6_setPower_51 : decode cX6_setPower 51 = .ok (.putfield 120, 3) := by decide +kernel
theorem dX6_setPower_54 : decode cX6_setPower 54 = .ok (.aload_n 0, 1) := by decide +kernel
theorem dX6_setPower_55 : decode cX6_setPower 55 = .ok (.getfield 10, 3) := by decide +kernel
theorem dX6_setPower_58 : decode cX6_setPower 58 = .ok (.getfield 100, 3) := by decide +kernel
theorem dX6_setPower_61 : decode cX6_setPower 61 = .ok (.iload_n 2, 1) := by decide +kernel
theorem dX6_setPower_62 : decode cX6_setPower 62 = .ok (.putfield 123, 3) := by decide +kernel
theorem dX6_setPower_65 : decode cX6_setPower 65 = .ok (.aload_n 0, 1) := by decide +kernel
theorem dX6_setPower_66 : decode cX6_setPower 66 = .ok (.getfield 10, 3) := by decide +kernel
theorem dX6_setPower_69 : decode cX6_setPower 69 = .ok (.getfield 100, 3) := by decide +kernel
theorem dX6_setPower_72 : decode cX6_setPower 72 = .ok (.iload_n 3, 1) := by decide +kernel
theorem dX6_setPower_73 : decode cX6_setPower 73 = .ok (.putfield 126, 3) := by decide +kernel
theorem dX6_setPower_76 : decode cX6_setPower 76 = .ok (.return_, 1) := by decide +kernel
set_option maxRecDepth 20000 in
theorem ggX6_setDrift_X6_outside : GoodIn wsX6_setDrift wsX6_outside := goodIn_r _ [10] (by decide +kernel) (by decide +kernel)
set_option maxRecDepth 20000 in
theorem gX6_setDrift_X6_outside : GoodIn wsX6_setDrift (va_wsS RX6 23 yX6_outside wsX6_outside) := goodIn_app (goodIn_of _ (by decide +kernel)) ggX6_setDrift_X6_outside
theorem dX6_setDrift_0 : decode cX6_setDrift 0 = .ok (.iload_n 1, 1) := by decide +kernel
theorem dX6_setDrift_1 : decode cX6_setDrift 1 = .ok (.sipush (-500), 3) := by decide +kernel
theorem dX6_setDrift_4 : decode cX6_setDrift 4 = .ok (.sipush 500, 3) := by decide +kernel
theorem dX6_setDrift_7 : decode cX6_setDrift 7 = .ok (.invokestatic 23, 3) := by decide +kernel
theorem dX6_setDrift_10 : decode cX6_setDrift 10 = .ok (.ifCond .ne 13, 3) := by decide +kernel
theorem dX6_setDrift_13 : decode cX6_setDrift 13 = .ok (.iload_n 2, 1) := by decide +kernel
theorem dX6_setDrift_14 : decode cX6_setDrift 14 = .ok (.iconst 0, 1) := by decide +kernel
theorem dX6_setDrift_15 : decode cX6_setDrift 15 = .ok (.bipush 100, 2) := by decide +kernel
theorem dX6_setDrift_17 : decode cX6_setDrift 17 = .ok (.invokestatic 23, 3) := by decide +kernel
theorem dX6_setDrift_20 : decode cX6_setDrift 20 = .ok (.ifCond .eq 13, 3) := by decide +kernel
theorem dX6_setDrift_23 : decode cX6_setDrift 23 = .ok (.new 29, 3) := by decide +kernel
theorem dX6_setDrift_26 : decode cX6_setDrift 26 = .ok (.dup, 1) := by decide +kernel
theorem dX6_setDrift_27 : decode cX6_setDrift 27 = .ok (.ldc 129, 2) := by decide +kernel
theorem dX6_setDrift_29 : decode cX6_setDrift 29 = .ok (.invokespecial 33, 3) := by decide +kernel
theorem dX6_setDrift_32 : decode cX6_setDrift 32 = .ok (.athrow, 1) := by decide +kernel
theorem dX6_setDrift_33 : decode cX6_setDrift 33 = .ok (.aload_n 0, 1) := by decide +kernel
theorem dX6_setDrift_34 : decode cX6_setDrift 34 = .ok (.getfield 10, 3) := by decide +kernel
theorem dX6_setDrift_37 : decode cX6_setDrift 37 = .ok (.getfield 100, 3) := by decide +kernel
theorem dX6_setDrift_40 : decode cX6_setDrift 40 = .ok (.iload_n 1, 1) := by decide +kernel
theorem dX6_setDrift_41 : decode cX6_setDrift 41 = .ok (.putfield 131, 3) := by decide +kernel
theorem dX6_setDrift_44 : decode cX6_setDrift 44 = .ok (.aload_n 0, 1) := by decide +kernel
theorem dX6_setDrift_45 : decode cX6_setDrift 45 = .ok (.getfield 10, 3) := by decide +kernel
theorem dX6_setDrift_48 : decode cX6_setDrift 48 = .ok (.getfield 100, 3) := by decide +kernel
theorem dX6_setDrift_51 : decode cX6_setDrift 51 = .ok (.iload_n 2, 1) := by decide +kernel
theorem dX6_setDrift_52 : decode cX6_setDrift 52 = .ok (.putfield 134, 3) := by decide +kernel
theorem dX6_setDrift_55 : decode cX6_setDrift 55 = .ok (.return_, 1) := by decide +kernel
set_option maxRecDepth 20000 in
theorem ggX6_addRule_X6_outside : GoodIn wsX6_addRule wsX6_outside := goodIn_r _ [11] (by decide +kernel) (by decide +kernel)
set_option maxRecDepth 20000 in
theorem gX6_addRule_X6_outside : GoodIn wsX6_addRule (va_wsS RX6 23 yX6_outside wsX6_outside) := goodIn_app (goodIn_of _ (by decide +kernel)) ggX6_addRule_X6_outside
set_option maxRecDepth 20000 in
theorem ggX6_addRule_X4_append : GoodIn wsX6_addRule wsX4_append := goodIn_r _ [16, 17, 18, 19, 20, 21, 9, 10, 11, 31, 32, 33, 34, 35] (by decide +kernel) (by decide +kernel)
set_option maxRecDepth 20000 in
theorem gX6_addRule_X4_append : GoodIn wsX6_addRule (wsV RX6 143 RX4 yX4_append wsX4_append) := goodIn_app (goodIn_of _ (by decide +kernel)) ggX6_addRule_X4_append
theorem dX6_addRule_0 : decode cX6_addRule 0 = .ok (.iload_n 1, 1) := by decide +kernel
theorem dX6_addRule_1 : decode cX6_addRule 1 = .ok (.iconst 0, 1) := by decide +kernel
theorem dX6_addRule_2 : decode cX6_addRule 2 = .ok (.iconst 4, 1) := by decide +kernel
theorem dX6_addRule_3 : decode cX6_addRule 3 = .ok (.invokestatic 23, 3) := by decide +kernel
theorem dX6_addRule_6 : decode cX6_addRule 6 = .ok (.ifCond .ne 24, 3) := by decide +kernel
theorem dX6_addRule_9 : decode cX6_addRule 9 = .ok (.iload_n 2, 1) := by decide +kernel
theorem dX6_addRule_10 : decode cX6_addRule 10 = .ok (.iconst 0, 1) := by decide +kernel
theorem dX6_addRule_11 : decode cX6_addRule 11 = .ok (.ldc 97, 2) := by decide +kernel
theorem dX6_addRule_13 : decode cX6_addRule 13 = .ok (.invokestatic 23, 3) := by decide +kernel
theorem dX6_addRule_16 : decode cX6_addRule 16 = .ok (.ifCond .ne 14, 3) := by decide +kernel
theorem dX6_addRule_19 : decode cX6_addRule 19 = .ok (.iload_n 3, 1) := by decide +kernel
theorem dX6_addRule_20 : decode cX6_addRule 20 = .ok (.iconst 1, 1) := by decide +kernel
theorem dX6_addRule_21 : decode cX6_addRule 21 = .ok (.sipush 10000, 3) := by decide +kernel
theorem dX6_addRule_24 : decode cX6_addRule 24 = .ok (.invokestatic 23, 3) := by decide +kernel
theorem dX6_addRule_27 : decode cX6_addRule 27 = .ok (.ifCond .eq 13, 3) := by decide +kernel
theorem dX6_addRule_30 : decode cX6_addRule 30 = .ok (.new 29, 3) := by decide +kernel
theorem dX6_addRule_33 : decode cX6_addRule 33 = .ok (.dup, 1) := by decide +kernel
theorem dX6_addRule_34 : decode cX6_addRule 34 = .ok (.ldc 137, 2) := by decide +kernel
theorem dX6_addRule_36 : decode cX6_addRule 36 = .ok (.invokespecial 33, 3) := by decide +kernel
theorem dX6_addRule_39 : decode cX6_addRule 39 = .ok (.athrow, 1) := by decide +kernel
theorem dX6_addRule_40 : decode cX6_addRule 40 = .ok (.aload_n 0, 1) := by decide +kernel
theorem dX6_addRule_41 : decode cX6_addRule 41 = .ok (.getfield 10, 3) := by decide +kernel
theorem dX6_addRule_44 : decode cX6_addRule 44 = .ok (.getfield 139, 3) := by decide +kernel
theorem dX6_addRule_47 : decode cX6_addRule 47 = .ok (.iload_n 1, 1) := by decide +kernel
theorem dX6_addRule_48 : decode cX6_addRule 48 = .ok (.iload_n 2, 1) := by decide +kernel
theorem dX6_addRule_49 : decode cX6_addRule 49 = .ok (.iload_n 3, 1) := by decide +kernel
theorem dX6_addRule_50 : decode cX6_addRule 50 = .ok (.invokevirtual 143, 3) := by decide +kernel
theorem dX6_addRule_53 : decode cX6_addRule 53 = .ok (.istore 4, 2) := by decide +kernel
theorem dX6_addRule_55 : decode cX6_addRule 55 = .ok (.iload 4, 2) := by decide +kernel
theorem dX6_addRule_57 : decode cX6_addRule 57 = .ok (.iconst (-1), 1) := by decide +kernel
theorem dX6_addRule_58 : decode cX6_addRule 58 = .ok (.if_icmp .ne 13, 3) := by decide +kernel
theorem dX6_addRule_61 : decode cX6_addRule 61 = .ok (.new 149, 3) := by decide +kernel
theorem dX6_addRule_64 : decode cX6_addRule 64 = .ok (.dup, 1) := by decide +kernel
theorem dX6_addRule_65 : decode cX6_addRule 65 = .ok (.ldc 151, 2) := by decide +kernel
theorem dX6_addRule_67 : decode cX6_addRule 67 = .ok (.invokespecial 153, 3) := by decide +kernel
theorem dX6_addRule_70 : decode cX6_addRule 70 = .ok (.athrow, 1) := by decide +kernel
theorem dX6_addRule_71 : decode cX6_addRule 71 = .ok (.iload 4, 2) := by decide +kernel
theorem dX6_addRule_73 : decode cX6_addRule 73 = .ok (.ireturn, 1) := by decide +kernel
theorem dX6_clearRules_0 : decode cX6_clearRules 0 = .ok (.aload_n 0, 1) := by decide +kernel
theorem dX6_clearRules_1 : decode cX6_clearRules 1 = .ok (.getfield 10, 3) := by decide +kernel
theorem dX6_clearRules_4 : decode cX6_clearRules 4 = .ok (.getfield 139, 3) := by decide +kernel
theorem dX6_clearRules_7 : decode cX6_clearRules 7 = .ok (.getfield 154, 3) := by decide +kernel
theorem dX6_clearRules_10 : decode cX6_clearRules 10 = .ok (.istore_n 1, 1) := by decide +kernel
theorem dX6_clearRules_11 : decode cX6_clearRules 11 = .ok (.aload_n 0, 1) := by decide +kernel
theorem dX6_clearRules_12 : decode cX6_clearRules 12 = .ok (.getfield 10, 3) := by decide +kernel
theorem dX6_clearRules_15 : decode cX6_clearRules 15 = .ok (.getfield 139, 3) := by decide +kernel
theorem dX6_clearRules_18 : decode cX6_clearRules 18 = .ok (.iconst 0, 1) := by decide +kernel
theorem dX6_clearRules_19 : decode cX6_clearRules 19 = .ok (.putfield 154, 3) := by decide +kernel
theorem dX6_clearRules_22 : decode cX6_clearRules 22 = .ok (.iload_n 1, 1) := by decide +kernel
theorem dX6_clearRules_23 : decode cX6_clearRules 23 = .ok (.ireturn, 1) := by decide +kernel
set_option maxRecDepth 20000 in
theorem ggX6_start_X0_leaveStop : GoodIn wsX6_start wsX0_leaveStop := goodIn_r _ [7, 8, 9, 19, 20, 21, 22, 23, 24, 25, 26, 27, 28, 29, 30, 31, 32] (by decide +kernel) (by decide +kernel)
set_option maxRecDepth 20000 in
theorem gX6_start_X0_leaveStop : GoodIn wsX6_start (wsV RX6 157 RX0 yX0_leaveStop wsX0_leaveStop) := goodIn_app (goodIn_of _ (by decide +kernel)) ggX6_start_X0_leaveStop
theorem dX6_start_0 : decode cX6_start 0 = .ok (.aload_n 0, 1) := by decide +kernel
theorem dX6_start_1 : decode cX6_start 1 = .ok (.getfield 10, 3) := by decide +kernel
theorem dX6_start_4 : decode cX6_start 4 = .ok (.getfield 100, 3) := by decide +kernel
theorem dX6_start_7 : decode cX6_start 7 = .ok (.invokevirtual 157, 3) := by decide +kernel
theorem dX6_start_10 : decode cX6_start 10 = .ok (.ireturn, 1) := by decide +kernel
set_option maxRecDepth 20000 in
theorem ggX6_stop_X5_stopByCall : GoodIn wsX6_stop wsX5_stopByCall := goodIn_r _ [6, 7, 8, 9, 10, 11, 12, 13, 14, 15, 16, 17, 18, 19, 20, 21, 22, 23, 27, 28, 29, 30, 31, 32, 33, 34, 35, 36, 37, 38, 39, 40, 41, 42, 43, 44, 45, 46, 47, 48, 49] (by decide +kernel) (by decide +kernel)
set_option maxRecDepth 20000 in
theorem gX6_stop_X5_stopByCall : GoodIn wsX6_stop (wsV RX6 161 RX5 yX5_stopByCall wsX5_stopByCall) := goodIn_app (goodIn_of _ (by decide +kernel)) ggX6_stop_X5_stopByCall
theorem dX6_stop_0 : decode cX6_stop 0 = .ok (.aload_n 0, 1) := by decide +kernel
theorem dX6_stop_1 : decode cX6_stop 1 = .ok (.getfield 10, 3) := by decide +kernel
theorem dX6_stop_4 : decode cX6_stop 4 = .ok (.invokevirtual 161, 3) := by decide +kernel
theorem dX6_stop_7 : decode cX6_stop 7 = .ok (.ireturn, 1) := by decide +kernel
set_option maxRecDepth 20000 in
theorem ggX6_advance_X6_outside : GoodIn wsX6_advance wsX6_outside := goodIn_r _ [8] (by decide +kernel) (by decide +kernel)
set_option maxRecDepth 20000 in
theorem gX6_advance_X6_outside : GoodIn wsX6_advance (va_wsS RX6 23 yX6_outside wsX6_outside) := goodIn_app (goodIn_of _ (by decide +kernel)) ggX6_advance_X6_outside
set_option maxRecDepth 20000 in
theorem ggX6_advance_X5_tick : GoodIn wsX6_advance wsX5_tick := goodIn_r _ [13, 14, 15, 16, 17, 18, 19, 20, 21, 22, 23, 24, 25, 26, 27, 28, 29, 30, 31, 32, 33, 34, 35, 36, 37, 38, 39, 40, 41, 42, 43, 44, 45, 46, 47, 48, 49, 50, 51, 52, 53, 54, 55, 56, 57, 7, 58, 59, 60, 61, 62, 63, 64, 65, 66, 67, 68, 69, 70, 71, 72, 73, 74, 75, 76, 77, 78, 79, 80, 81, 82, 83, 84, 85, 86, 87, 88, 89, 6, 8, 90, 91, 92, 93, 94, 95, 96, 97, 12, 98, 99, 100, 101, 102, 103, 104, 105, 106, 107, 108, 109, 110, 111, 112, 113, 114, 115, 116, 117, 118, 119, 120, 121, 122, 123, 124, 125, 126, 127, 128, 129, 130, 131, 132, 133, 134, 135, 136, 137, 138, 139, 140, 141, 142, 143, 144, 145, 146, 147, 148, 149, 150, 151, 152, 153, 154, 155, 156, 157, 158, 159, 160, 161, 162, 163, 164, 168, 169, 170, 171, 172, 173, 174, 175, 176, 177, 178, 179, 180, 181, 182, 183, 184, 185, 186, 187, 188, 189, 190, 191, 192, 193, 194, 195, 196, 197, 198, 199, 200, 201, 202, 203, 204, 205, 206, 207, 208, 209, 210, 211, 212, 213] (by decide +kernel) (by decide +kernel)
set_option maxRecDepth 20000 in
theorem gX6_advance_X5_tick : GoodIn wsX6_advance (wsV RX6 166 RX5 yX5_tick wsX5_tick) := goodIn_app (goodIn_of _ (by decide +kernel)) ggX6_advance_X5_tick
theorem dX6_advance_0 : decode cX6_advance 0 = .ok (.iload_n 1, 1) := by decide +kernel
theorem dX6_advance_1 : decode cX6_advance 1 = .ok (.iconst 1, 1) := by decide +kernel
theorem dX6_advance_2 : decode cX6_advance 2 = .ok (.sipush 2000, 3) := by decide +kernel
theorem dX6_advance_5 : decode cX6_advance 5 = .ok (.invokestatic 23, 3) := by decide +kernel
theorem dX6_advance_8 : decode cX6_advance 8 = .ok (.ifCond .eq 13, 3) := by decide +kernel
theorem dX6_advance_11 : decode cX6_advance 11 = .ok (.new 29, 3) := by decide +kernel
theorem dX6_advance_14 : decode cX6_advance 14 = .ok (.dup, 1) := by decide +kernel
theorem dX6_advance_15 : decode cX6_advance 15 = .ok (.ldc 164, 2) := by decide +kernel
theorem dX6_advance_17 : decode cX6_advance 17 = .ok (.invokespecial 33, 3) := by decide +kernel
theorem dX6_advance_20 : decode cX6_advance 20 = .ok (.athrow, 1) := by decide +kernel
theorem dX6_advance_21 : decode cX6_advance 21 = .ok (.iconst 0, 1) := by decide +kernel
theorem dX6_advance_22 : decode cX6_advance 22 = .ok (.istore_n 2, 1) := by decide +kernel
theorem dX6_advance_23 : decode cX6_advance 23 = .ok (.iload_n 2, 1) := by decide +kernel
theorem dX6_advance_24 : decode cX6_advance 24 = .ok (.iload_n 1, 1) := by decide +kernel
theorem dX6_advance_25 : decode cX6_advance 25 = .ok (.if_icmp .ge 16, 3) := by decide +kernel
theorem dX6_advance_28 : decode cX6_advance 28 = .ok (.aload_n 0, 1) := by decide +kernel
theorem dX6_advance_29 : decode cX6_advance 29 = .ok (.getfield 10, 3) := by decide +kernel
theorem dX6_advance_32 : decode cX6_advance 32 = .ok (.invokevirtual 166, 3) := by decide +kernel
theorem dX6_advance_35 : decode cX6_advance 35 = .ok (.iinc 2 1, 3) := by decide +kernel
theorem dX6_advance_38 : decode cX6_advance 38 = .ok (.goto (-15), 3) := by decide +kernel
theorem dX6_advance_41 : decode cX6_advance 41 = .ok (.aload_n 0, 1) := by decide +kernel
theorem dX6_advance_42 : decode cX6_advance 42 = .ok (.getfield 10, 3) := by decide +kernel
theorem dX6_advance_45 : decode cX6_advance 45 = .ok (.getfield 169, 3) := by decide +kernel
theorem dX6_advance_48 : decode cX6_advance 48 = .ok (.ireturn, 1) := by decide +kernel
theorem dX6_state_0 : decode cX6_state 0 = .ok (.aload_n 0, 1) := by decide +kernel
theorem dX6_state_1 : decode cX6_state 1 = .ok (.getfield 10, 3) := by decide +kernel
theorem dX6_state_4 : decode cX6_state 4 = .ok (.getfield 100, 3) := by decide +kernel
theorem dX6_state_7 : decode cX6_state 7 = .ok (.getfield 172, 3) := by decide +kernel
theorem dX6_state_10 : decode cX6_state 10 = .ok (.ireturn, 1) := by decide +kernel
set_option maxRecDepth 20000 in
theorem ggX6_isLocked_X3_holdsLock : GoodIn wsX6_isLocked wsX3_holdsLock := goodIn_r _ [7, 8, 9, 19, 20, 21, 22, 23, 24, 25, 26, 27] (by decide +kernel) (by decide +kernel)
set_option maxRecDepth 20000 in
theorem gX6_isLocked_X3_holdsLock : GoodIn wsX6_isLocked (wsV RX6 175 RX3 yX3_holdsLock wsX3_holdsLock) := goodIn_app (goodIn_of _ (by decide +kernel)) ggX6_isLocked_X3_holdsLock
theorem dX6_isLocked_0 : decode cX6_isLocked 0 = .ok (.aload_n 0, 1) := by decide +kernel
theorem dX6_isLocked_1 : decode cX6_isLocked 1 = .ok (.getfield 10, 3) := by decide +kernel
theorem dX6_isLocked_4 : decode cX6_isLocked 4 = .ok (.getfield 75, 3) := by decide +kernel
theorem dX6_isLocked_7 : decode cX6_isLocked 7 = .ok (.invokevirtual 175, 3) := by decide +kernel
theorem dX6_isLocked_10 : decode cX6_isLocked 10 = .ok (.ireturn, 1) := by decide +kernel
theorem dX6_measure_0 : decode cX6_measure 0 = .ok (.iload_n 1, 1) := by decide +kernel
theorem dX6_measure_1 : decode cX6_measure 1 = .ok (.tableswitch 162 0 9 #[55, 63, 74, 85, 96, 107, 118, 129, 140, 151], 55) := by decide +kernel
theorem dX6_measure_56 : decode cX6_measure 56 = .ok (.aload_n 0, 1) := by decide +kernel
theorem dX6_measure_57 : decode cX6_measure 57 = .ok (.getfield 10, 3) := by decide +kernel
theorem dX6_measure_60 : decode cX6_measure 60 = .ok (.getfield 169, 3) := by decide +kernel
theorem dX6_measure_63 : decode cX6_measure 63 = .ok (.ireturn, 1) := by decide +kernel
theorem dX6_measure_64 : decode cX6_measure 64 = .ok (.aload_n 0, 1) := by decide +kernel
theorem dX6_measure_65 : decode cX6_measure 65 = .ok (.getfield 10, 3) := by decide +kernel
theorem dX6_measure_68 : decode cX6_measure 68 = .ok (.getfield 36, 3) := by decide +kernel
theorem dX6_measure_71 : decode cX6_measure 71 = .ok (.getfield 178, 3) := by decide +kernel
theorem dX6_measure_74 : decode cX6_measure 74 = .ok (.ireturn, 1) := by decide +kernel
theorem dX6_measure_75 : decode cX6_measure 75 = .ok (.aload_n 0, 1) := by decide +kernel
theorem dX6_measure_76 : decode cX6_measure 76 = .ok (.getfield 10, 3) := by decide +kernel
theorem dX6_measure_79 : decode cX6_measure 79 = .ok (.getfield 36, 3) := by decide +kernel
theorem dX6_measure_82 : decode cX6_measure 82 = .ok (.getfield 181, 3) := by decide +kernel
theorem dX6_measure_85 : decode cX6_measure 85 = .ok (.ireturn, 1) := by decide +kernel
theorem dX6_measure_86 : decode cX6_measure 86 = .ok (.aload_n 0, 1) := by decide +kernel
theorem dX6_measure_87 : decode cX6_measure 87 = .ok (.getfield 10, 3) := by decide +kernel
theorem dX6_measure_90 : decode cX6_measure 90 = .ok (.getfield 36, 3) := by decide +kernel
theorem dX6_measure_93 : decode cX6_measure 93 = .ok (.getfield 57, 3) := by decide +kernel
theorem dX6_measure_96 : decode cX6_measure 96 = .ok (.ireturn, 1) := by decide +kernel
theorem dX6_measure_97 : decode cX6_measure 97 = .ok (.aload_n 0, 1) := by decide +kernel
theorem dX6_measure_98 : decode cX6_measure 98 = .ok (.getfield 10, 3) := by decide +kernel
theorem dX6_measure_101 : decode cX6_measure 101 = .ok (.getfield 75, 3) := by decide +kernel
theorem dX6_measure_104 : decode cX6_measure 104 = .ok (.getfield 184, 3) := by decide +kernel
theorem dX6_measure_107 : decode cX6_measure 107 = .ok (.ireturn, 1) := by decide +kernel
theorem dX6_measure_108 : decode cX6_measure 108 = .ok (.aload_n 0, 1) := by decide +kernel
theorem dX6_measure_109 : decode cX6_measure 109 = .ok (.getfield 10, 3) := by decide +kernel
theorem dX6_measure_112 : decode cX6_measure 112 = .ok (.getfield 75, 3) := by decide +kernel
theorem dX6_measure_115 : decode cX6_measure 115 = .ok (.getfield 185, 3) := by decide +kernel
theorem dX6_measure_118 : decode cX6_measure 118 = .ok (.ireturn, 1) := by decide +kernel
theorem dX6_measure_119 : decode cX6_measure 119 = .ok (.aload_n 0, 1) := by decide +kernel
theorem dX6_measure_120 : decode cX6_measure 120 = .ok (.getfield 10, 3) := by decide +kernel
theorem dX6_measure_123 : decode cX6_measure 123 = .ok (.getfield 75, 3) := by decide +kernel
theorem dX6_measure_126 : decode cX6_measure 126 = .ok (.getfield 186, 3) := by decide +kernel
theorem dX6_measure_129 : decode cX6_measure 129 = .ok (.ireturn, 1) := by decide +kernel
theorem dX6_measure_130 : decode cX6_measure 130 = .ok (.aload_n 0, 1) := by decide +kernel
theorem dX6_measure_131 : decode cX6_measure 131 = .ok (.getfield 10, 3) := by decide +kernel
theorem dX6_measure_134 : decode cX6_measure 134 = .ok (.getfield 75, 3) := by decide +kernel
theorem dX6_measure_137 : decode cX6_measure 137 = .ok (.getfield 189, 3) := by decide +kernel
theorem dX6_measure_140 : decode cX6_measure 140 = .ok (.ireturn, 1) := by decide +kernel
theorem dX6_measure_141 : decode cX6_measure 141 = .ok (.aload_n 0, 1) := by decide +kernel
theorem dX6_measure_142 : decode cX6_measure 142 = .ok (.getfield 10, 3) := by decide +kernel
theorem dX6_measure_145 : decode cX6_measure 145 = .ok (.getfield 100, 3) := by decide +kernel
theorem dX6_measure_148 : decode cX6_measure 148 = .ok (.getfield 192, 3) := by decide +kernel
theorem dX6_measure_151 : decode cX6_measure 151 = .ok (.ireturn, 1) := by decide +kernel
theorem dX6_measure_152 : decode cX6_measure 152 = .ok (.aload_n 0, 1) := by decide +kernel
theorem dX6_measure_153 : decode cX6_measure 153 = .ok (.getfield 10, 3) := by decide +kernel
theorem dX6_measure_156 : decode cX6_measure 156 = .ok (.getfield 100, 3) := by decide +kernel
theorem dX6_measure_159 : decode cX6_measure 159 = .ok (.getfield 195, 3) := by decide +kernel
theorem dX6_measure_162 : decode cX6_measure 162 = .ok (.ireturn, 1) := by decide +kernel
theorem dX6_measure_163 : decode cX6_measure 163 = .ok (.new 29, 3) := by decide +kernel
theorem dX6_measure_166 : decode cX6_measure 166 = .ok (.dup, 1) := by decide +kernel
theorem dX6_measure_167 : decode cX6_measure 167 = .ok (.ldc 198, 2) := by decide +kernel
theorem dX6_measure_169 : decode cX6_measure 169 = .ok (.invokespecial 33, 3) := by decide +kernel
theorem dX6_measure_172 : decode cX6_measure 172 = .ok (.athrow, 1) := by decide +kernel
set_option maxRecDepth 20000 in
theorem ggX6_violations_X4_countOf : GoodIn wsX6_violations wsX4_countOf := goodIn_r _ [9, 10, 11, 21, 22, 23, 24, 25] (by decide +kernel) (by decide +kernel)
set_option maxRecDepth 20000 in
theorem gX6_violations_X4_countOf : GoodIn wsX6_violations (wsV RX6 200 RX4 yX4_countOf wsX4_countOf) := goodIn_app (goodIn_of _ (by decide +kernel)) ggX6_violations_X4_countOf
theorem dX6_violations_0 : decode cX6_violations 0 = .ok (.aload_n 0, 1) := by decide +kernel
theorem dX6_violations_1 : decode cX6_violations 1 = .ok (.getfield 10, 3) := by decide +kernel
theorem dX6_violations_4 : decode cX6_violations 4 = .ok (.getfield 139, 3) := by decide +kernel
theorem dX6_violations_7 : decode cX6_violations 7 = .ok (.iload_n 1, 1) := by decide +kernel
theorem dX6_violations_8 : decode cX6_violations 8 = .ok (.invokevirtual 200, 3) := by decide +kernel
theorem dX6_violations_11 : decode cX6_violations 11 = .ok (.istore_n 2, 1) := by decide +kernel
theorem dX6_violations_12 : decode cX6_violations 12 = .ok (.iload_n 2, 1) := by decide +kernel
theorem dX6_violations_13 : decode cX6_violations 13 = .ok (.iconst (-1), 1) := by decide +kernel
theorem dX6_violations_14 : decode cX6_violations 14 = .ok (.if_icmp .ne 13, 3) := by decide +kernel
theorem dX6_violations_17 : decode cX6_violations 17 = .ok (.new 204, 3) := by decide +kernel
theorem dX6_violations_20 : decode cX6_violations 20 = .ok (.dup, 1) := by decide +kernel
theorem dX6_violations_21 : decode cX6_violations 21 = .ok (.ldc 206, 2) := by decide +kernel
theorem dX6_violations_23 : decode cX6_violations 23 = .ok (.invokespecial 208, 3) := by decide +kernel
theorem dX6_violations_26 : decode cX6_violations 26 = .ok (.athrow, 1) := by decide +kernel
theorem dX6_violations_27 : decode cX6_violations 27 = .ok (.iload_n 2, 1) := by decide +kernel
theorem dX6_violations_28 : decode cX6_violations 28 = .ok (.ireturn, 1) := by decide +kernel
theorem dX6_energy_0 : decode cX6_energy 0 = .ok (.aload_n 0, 1) := by decide +kernel
theorem dX6_energy_1 : decode cX6_energy 1 = .ok (.getfield 10, 3) := by decide +kernel
theorem dX6_energy_4 : decode cX6_energy 4 = .ok (.getfield 100, 3) := by decide +kernel
theorem dX6_energy_7 : decode cX6_energy 7 = .ok (.getfield 209, 3) := by decide +kernel
theorem dX6_energy_10 : decode cX6_energy 10 = .ok (.lreturn, 1) := by decide +kernel
theorem dX6_availability_0 : decode cX6_availability 0 = .ok (.aload_n 0, 1) := by decide +kernel
theorem dX6_availability_1 : decode cX6_availability 1 = .ok (.getfield 10, 3) := by decide +kernel
theorem dX6_availability_4 : decode cX6_availability 4 = .ok (.getfield 169, 3) := by decide +kernel
theorem dX6_availability_7 : decode cX6_availability 7 = .ok (.istore_n 1, 1) := by decide +kernel
theorem dX6_availability_8 : decode cX6_availability 8 = .ok (.iload_n 1, 1) := by decide +kernel
theorem dX6_availability_9 : decode cX6_availability 9 = .ok (.ifCond .le 20, 3) := by decide +kernel
theorem dX6_availability_12 : decode cX6_availability 12 = .ok (.aload_n 0, 1) := by decide +kernel
theorem dX6_availability_13 : decode cX6_availability 13 = .ok (.getfield 10, 3) := by decide +kernel
theorem dX6_availability_16 : decode cX6_availability 16 = .ok (.getfield 100, 3) := by decide +kernel
theorem dX6_availability_19 : decode cX6_availability 19 = .ok (.getfield 213, 3) := by decide +kernel
theorem dX6_availability_22 : decode cX6_availability 22 = .ok (.i2d, 1) := by decide +kernel
theorem dX6_availability_23 : decode cX6_availability 23 = .ok (.iload_n 1, 1) := by decide +kernel
theorem dX6_availability_24 : decode cX6_availability 24 = .ok (.i2d, 1) := by decide +kernel
theorem dX6_availability_25 : decode cX6_availability 25 = .ok (.ddiv, 1) := by decide +kernel
theorem dX6_availability_26 : decode cX6_availability 26 = .ok (.goto 4, 3) := by decide +kernel
theorem dX6_availability_29 : decode cX6_availability 29 = .ok (.dconst 0, 1) := by decide +kernel
theorem dX6_availability_30 : decode cX6_availability 30 = .ok (.dreturn, 1) := by decide +kernel
theorem dX6_events_0 : decode cX6_events 0 = .ok (.aload_n 0, 1) := by decide +kernel
theorem dX6_events_1 : decode cX6_events 1 = .ok (.getfield 10, 3) := by decide +kernel
theorem dX6_events_4 : decode cX6_events 4 = .ok (.getfield 216, 3) := by decide +kernel
theorem dX6_events_7 : decode cX6_events 7 = .ok (.getfield 220, 3) := by decide +kernel
theorem dX6_events_10 : decode cX6_events 10 = .ok (.ireturn, 1) := by decide +kernel
set_option maxRecDepth 20000 in
theorem ggX6_event_X6_outside : GoodIn wsX6_event wsX6_outside := goodIn_r _ [8] (by decide +kernel) (by decide +kernel)
set_option maxRecDepth 20000 in
theorem gX6_event_X6_outside : GoodIn wsX6_event (va_wsS RX6 23 yX6_outside wsX6_outside) := goodIn_app (goodIn_of _ (by decide +kernel)) ggX6_event_X6_outside
set_option maxRecDepth 20000 in
theorem ggX6_event_X2_timeOf : GoodIn wsX6_event wsX2_timeOf := goodIn_r _ [13, 14, 15, 16, 17, 12, 18, 19, 20, 21, 22, 23, 38, 39, 40] (by decide +kernel) (by decide +kernel)
set_option maxRecDepth 20000 in
theorem gX6_event_X2_timeOf : GoodIn wsX6_event (wsV RX6 225 RX2 yX2_timeOf wsX2_timeOf) := goodIn_app (goodIn_of _ (by decide +kernel)) ggX6_event_X2_timeOf
set_option maxRecDepth 20000 in
theorem ggX6_event_X2_causeOf : GoodIn wsX6_event wsX2_causeOf := goodIn_r _ [27, 28, 15, 16, 17, 12, 18, 19, 20, 21, 22, 23, 38, 39, 40] (by decide +kernel) (by decide +kernel)
set_option maxRecDepth 20000 in
theorem gX6_event_X2_causeOf : GoodIn wsX6_event (wsV RX6 228 RX2 yX2_causeOf wsX2_causeOf) := goodIn_app (goodIn_of _ (by decide +kernel)) ggX6_event_X2_causeOf
theorem dX6_event_0 : decode cX6_event 0 = .ok (.iload_n 2, 1) := by decide +kernel
theorem dX6_event_1 : decode cX6_event 1 = .ok (.iconst 0, 1) := by decide +kernel
theorem dX6_event_2 : decode cX6_event 2 = .ok (.iconst 1, 1) := by decide +kernel
theorem dX6_event_3 : decode cX6_event 3 = .ok (.invokestatic 23, 3) := by decide +kernel
theorem dX6_event_6 : decode cX6_event 6 = .ok (.ifCond .eq 13, 3) := by decide +kernel
theorem dX6_event_9 : decode cX6_event 9 = .ok (.new 29, 3) := by decide +kernel
theorem dX6_event_12 : decode cX6_event 12 = .ok (.dup, 1) := by decide +kernel
theorem dX6_event_13 : decode cX6_event 13 = .ok (.ldc 223, 2) := by decide +kernel
theorem dX6_event_15 : decode cX6_event 15 = .ok (.invokespecial 33, 3) := by decide +kernel
theorem dX6_event_18 : decode cX6_event 18 = .ok (.athrow, 1) := by decide +kernel
theorem dX6_event_19 : decode cX6_event 19 = .ok (.iload_n 2, 1) := by decide +kernel
theorem dX6_event_20 : decode cX6_event 20 = .ok (.ifCond .ne 17, 3) := by decide +kernel
theorem dX6_event_23 : decode cX6_event 23 = .ok (.aload_n 0, 1) := by decide +kernel
theorem dX6_event_24 : decode cX6_event 24 = .ok (.getfield 10, 3) := by decide +kernel
theorem dX6_event_27 : decode cX6_event 27 = .ok (.getfield 216, 3) := by decide +kernel
theorem dX6_event_30 : decode cX6_event 30 = .ok (.iload_n 1, 1) := by decide +kernel
theorem dX6_event_31 : decode cX6_event 31 = .ok (.invokevirtual 225, 3) := by decide +kernel
theorem dX6_event_34 : decode cX6_event 34 = .ok (.goto 14, 3) := by decide +kernel
theorem dX6_event_37 : decode cX6_event 37 = .ok (.aload_n 0, 1) := by decide +kernel
theorem dX6_event_38 : decode cX6_event 38 = .ok (.getfield 10, 3) := by decide +kernel
theorem dX6_event_41 : decode cX6_event 41 = .ok (.getfield 216, 3) := by decide +kernel
theorem dX6_event_44 : decode cX6_event 44 = .ok (.iload_n 1, 1) := by decide +kernel
theorem dX6_event_45 : decode cX6_event 45 = .ok (.invokevirtual 228, 3) := by decide +kernel
theorem dX6_event_48 : decode cX6_event 48 = .ok (.ireturn, 1) := by decide +kernel
set_option maxRecDepth 20000 in
theorem ggX6_islandTime_X6_badIsland : GoodIn wsX6_islandTime wsX6_badIsland := goodIn_r _ [11, 12, 13, 14, 15, 10, 16] (by decide +kernel) (by decide +kernel)
set_option maxRecDepth 20000 in
theorem gX6_islandTime_X6_badIsland : GoodIn wsX6_islandTime (va_wsS RX6 64 yX6_badIsland wsX6_badIsland) := goodIn_app (goodIn_of _ (by decide +kernel)) ggX6_islandTime_X6_badIsland
set_option maxRecDepth 20000 in
theorem ggX6_islandTime_X6_outside : GoodIn wsX6_islandTime wsX6_outside := goodIn_r _ [16] (by decide +kernel) (by decide +kernel)
set_option maxRecDepth 20000 in
theorem gX6_islandTime_X6_outside : GoodIn wsX6_islandTime (va_wsS RX6 23 yX6_outside wsX6_outside) := goodIn_app (goodIn_of _ (by decide +kernel)) ggX6_islandTime_X6_outside
set_option maxRecDepth 20000 in
theorem ggX6_islandTime_X6_ticksToDetect : GoodIn wsX6_islandTime wsX6_ticksToDetect := goodIn_r _ [20, 21, 5, 22, 23, 6, 7, 24, 25, 26, 27, 28, 29, 30, 31, 32, 33, 34, 35, 36, 37, 38, 39, 40, 41, 42, 43, 44, 45, 46, 47, 48, 49, 50, 51, 52, 53, 54, 55, 56, 57, 58, 59, 60, 61, 62, 63, 64, 65, 66, 67, 10, 68, 69, 70, 71, 72, 73, 74, 75, 76, 77, 78, 79, 80, 81, 82, 83, 84, 85, 86, 87, 88, 89, 90, 91, 92, 93, 94, 95, 96, 97, 98, 99, 100, 101, 102, 103, 104, 105, 106, 107, 108, 109, 110, 111, 112, 113, 114, 115, 116, 117, 118, 119, 120, 121, 122, 123, 124, 125, 126, 127, 128, 129, 130, 131, 132, 133, 134, 135, 136, 137, 138, 139, 140, 141, 142, 143, 144, 145, 146, 147, 148, 149, 150, 151, 152, 153, 154, 155, 156, 157, 158, 159, 160, 161, 162, 163, 164, 165, 15, 16, 166, 167, 168, 169, 170, 171, 172, 173, 174, 175, 176, 177, 178, 179, 180, 181, 182, 183, 184, 185, 186, 187, 188, 189, 190, 191, 192, 193, 194, 195, 196, 197, 198, 199, 200, 201, 202, 203, 204, 205, 206, 207, 208, 209, 210, 211, 212, 213, 214, 215, 216, 217, 218, 219, 220, 221, 222, 223, 224, 225, 240, 241, 242, 243, 244, 245, 246, 247, 248, 226, 227, 228, 229, 230, 231, 232, 233, 234, 235, 236, 237, 238, 239, 249, 250, 251, 252, 253, 254, 255, 256, 257, 258, 259, 260, 261, 262, 263, 264, 265] (by decide +kernel) (by decide +kernel)
set_option maxRecDepth 20000 in
theorem gX6_islandTime_X6_ticksToDetect : GoodIn wsX6_islandTime (wsV RX6 235 RX6 yX6_ticksToDetect wsX6_ticksToDetect) := goodIn_app (goodIn_of _ (by decide +kernel)) ggX6_islandTime_X6_ticksToDetect
theorem dX6_islandTime_0 : decode cX6_islandTime 0 = .ok (.iload_n 1, 1) := by decide +kernel
theorem dX6_islandTime_1 : decode cX6_islandTime 1 = .ok (.iload_n 2, 1) := by decide +kernel
theorem dX6_islandTime_2 : decode cX6_islandTime 2 = .ok (.iload_n 3, 1) := by decide +kernel
theorem dX6_islandTime_3 : decode cX6_islandTime 3 = .ok (.invokestatic 64, 3) := by decide +kernel
theorem dX6_islandTime_6 : decode cX6_islandTime 6 = .ok (.ifCond .ne 15, 3) := by decide +kernel
theorem dX6_islandTime_9 : decode cX6_islandTime 9 = .ok (.iload 4, 2) := by decide +kernel
theorem dX6_islandTime_11 : decode cX6_islandTime 11 = .ok (.iconst 1, 1) := by decide +kernel
theorem dX6_islandTime_12 : decode cX6_islandTime 12 = .ok (.sipush 2000, 3) := by decide +kernel
theorem dX6_islandTime_15 : decode cX6_islandTime 15 = .ok (.invokestatic 23, 3) := by decide +kernel
theorem dX6_islandTime_18 : decode cX6_islandTime 18 = .ok (.ifCond .eq 13, 3) := by decide +kernel
theorem dX6_islandTime_21 : decode cX6_islandTime 21 = .ok (.new 29, 3) := by decide +kernel
theorem dX6_islandTime_24 : decode cX6_islandTime 24 = .ok (.dup, 1) := by decide +kernel
theorem dX6_islandTime_25 : decode cX6_islandTime 25 = .ok (.ldc 231, 2) := by decide +kernel
theorem dX6_islandTime_27 : decode cX6_islandTime 27 = .ok (.invokespecial 33, 3) := by decide +kernel
theorem dX6_islandTime_30 : decode cX6_islandTime 30 = .ok (.athrow, 1) := by decide +kernel
theorem dX6_islandTime_31 : decode cX6_islandTime 31 = .ok (.aload_n 0, 1) := by decide +kernel
theorem dX6_islandTime_32 : decode cX6_islandTime 32 = .ok (.getfield 10, 3) := by decide +kernel
theorem dX6_islandTime_35 : decode cX6_islandTime 35 = .ok (.getfield 100, 3) := by decide +kernel
theorem dX6_islandTime_38 : decode cX6_islandTime 38 = .ok (.getfield 172, 3) := by decide +kernel
theorem dX6_islandTime_41 : decode cX6_islandTime 41 = .ok (.iconst 1, 1) := by decide +kernel
theorem dX6_islandTime_42 : decode cX6_islandTime 42 = .ok (.if_icmp .eq 13, 3) := by decide +kernel
theorem dX6_islandTime_45 : decode cX6_islandTime 45 = .ok (.new 149, 3) := by decide +kernel
theorem dX6_islandTime_48 : decode cX6_islandTime 48 = .ok (.dup, 1) := by decide +kernel
theorem dX6_islandTime_49 : decode cX6_islandTime 49 = .ok (.ldc 233, 2) := by decide +kernel
theorem dX6_islandTime_51 : decode cX6_islandTime 51 = .ok (.invokespecial 153, 3) := by decide +kernel
theorem dX6_islandTime_54 : decode cX6_islandTime 54 = .ok (.athrow, 1) := by decide +kernel
theorem dX6_islandTime_55 : decode cX6_islandTime 55 = .ok (.aload_n 0, 1) := by decide +kernel
theorem dX6_islandTime_56 : decode cX6_islandTime 56 = .ok (.iload_n 1, 1) := by decide +kernel
theorem dX6_islandTime_57 : decode cX6_islandTime 57 = .ok (.iload_n 2, 1) := by decide +kernel
theorem dX6_islandTime_58 : decode cX6_islandTime 58 = .ok (.iload_n 3, 1) := by decide +kernel
theorem dX6_islandTime_59 : decode cX6_islandTime 59 = .ok (.iload 4, 2) := by decide +kernel
theorem dX6_islandTime_61 : decode cX6_islandTime 61 = .ok (.invokevirtual 235, 3) := by decide +kernel
theorem dX6_islandTime_64 : decode cX6_islandTime 64 = .ok (.ireturn, 1) := by decide +kernel
set_option maxRecDepth 20000 in
theorem ggX6_undetected_X6_outside : GoodIn wsX6_undetected wsX6_outside := goodIn_r _ [14] (by decide +kernel) (by decide +kernel)
set_option maxRecDepth 20000 in
theorem gX6_undetected_X6_outside : GoodIn wsX6_undetected (va_wsS RX6 23 yX6_outside wsX6_outside) := goodIn_app (goodIn_of _ (by decide +kernel)) ggX6_undetected_X6_outside
set_option maxRecDepth 20000 in
theorem ggX6_undetected_X6_ticksToDetect : GoodIn wsX6_undetected wsX6_ticksToDetect := goodIn_r _ [18, 19, 5, 8, 20, 6, 7, 21, 22, 23, 24, 25, 26, 27, 28, 29, 30, 31, 32, 33, 34, 35, 36, 37, 38, 39, 40, 41, 42, 43, 44, 45, 46, 47, 48, 49, 50, 51, 52, 53, 54, 55, 56, 57, 58, 59, 60, 61, 62, 63, 64, 13, 65, 66, 67, 68, 69, 70, 71, 72, 73, 74, 75, 76, 77, 78, 79, 80, 81, 82, 83, 84, 85, 86, 87, 88, 89, 90, 91, 92, 93, 94, 95, 96, 97, 98, 99, 100, 101, 102, 103, 104, 105, 106, 107, 108, 109, 110, 111, 112, 113, 114, 115, 116, 117, 118, 119, 120, 121, 122, 123, 124, 125, 126, 127, 128, 129, 130, 131, 132, 133, 134, 135, 136, 137, 138, 139, 140, 141, 142, 143, 144, 145, 146, 147, 148, 149, 150, 151, 152, 153, 154, 155, 156, 157, 158, 159, 160, 161, 162, 12, 14, 163, 164, 165, 166, 167, 168, 169, 170, 171, 172, 173, 174, 175, 176, 177, 178, 179, 180, 181, 182, 183, 184, 185, 186, 187, 188, 189, 190, 191, 192, 193, 194, 195, 196, 197, 198, 199, 200, 201, 202, 203, 204, 205, 206, 207, 208, 209, 210, 211, 212, 213, 214, 215, 216, 217, 218, 219, 220, 221, 222, 237, 238, 239, 240, 241, 242, 243, 244, 245, 223, 224, 225, 226, 227, 228, 229, 230, 231, 232, 233, 234, 235, 236, 246, 247, 248, 249, 250, 251, 252, 253, 254, 255, 256, 257, 258, 259, 260, 261, 262] (by decide +kernel) (by decide +kernel)
set_option maxRecDepth 20000 in
theorem gX6_undetected_X6_ticksToDetect : GoodIn wsX6_undetected (wsV RX6 235 RX6 yX6_ticksToDetect wsX6_ticksToDetect) := goodIn_app (goodIn_of _ (by decide +kernel)) ggX6_undetected_X6_ticksToDetect
theorem dX6_undetected_0 : decode cX6_undetected 0 = .ok (.iload_n 1, 1) := by decide +kernel
theorem dX6_undetected_1 : decode cX6_undetected 1 = .ok (.iconst 1, 1) := by decide +kernel
theorem dX6_undetected_2 : decode cX6_undetected 2 = .ok (.sipush 5000, 3) := by decide +kernel
theorem dX6_undetected_5 : decode cX6_undetected 5 = .ok (.invokestatic 23, 3) := by decide +kernel
theorem dX6_undetected_8 : decode cX6_undetected 8 = .ok (.ifCond .ne 49, 3) := by decide +kernel
theorem dX6_undetected_11 : decode cX6_undetected 11 = .ok (.iload_n 2, 1) := by decide +kernel
theorem dX6_undetected_12 : decode cX6_undetected 12 = .ok (.iconst 1, 1) := by decide +kernel
theorem dX6_undetected_13 : decode cX6_undetected 13 = .ok (.sipush 500, 3) := by decide +kernel
theorem dX6_undetected_16 : decode cX6_undetected 16 = .ok (.invokestatic 23, 3) := by decide +kernel
theorem dX6_undetected_19 : decode cX6_undetected 19 = .ok (.ifCond .ne 38, 3) := by decide +kernel
theorem dX6_undetected_22 : decode cX6_undetected 22 = .ok (.iload_n 3, 1) := by decide +kernel
theorem dX6_undetected_23 : decode cX6_undetected 23 = .ok (.iconst 1, 1) := by decide +kernel
theorem dX6_undetected_24 : decode cX6_undetected 24 = .ok (.bipush 10, 2) := by decide +kernel
theorem dX6_undetected_26 : decode cX6_undetected 26 = .ok (.invokestatic 23, 3) := by decide +kernel
theorem dX6_undetected_29 : decode cX6_undetected 29 = .ok (.ifCond .ne 28, 3) := by decide +kernel
theorem dX6_undetected_32 : decode cX6_undetected 32 = .ok (.iload 4, 2) := by decide +kernel
theorem dX6_undetected_34 : decode cX6_undetected 34 = .ok (.iconst 1, 1) := by decide +kernel
theorem dX6_undetected_35 : decode cX6_undetected 35 = .ok (.sipush 500, 3) := by decide +kernel
theorem dX6_undetected_38 : decode cX6_undetected 38 = .ok (.invokestatic 23, 3) := by decide +kernel
theorem dX6_undetected_41 : decode cX6_undetected 41 = .ok (.ifCond .ne 16, 3) := by decide +kernel
theorem dX6_undetected_44 : decode cX6_undetected 44 = .ok (.iload_n 1, 1) := by decide +kernel
theorem dX6_undetected_45 : decode cX6_undetected 45 = .ok (.iload_n 3, 1) := by decide +kernel
theorem dX6_undetected_46 : decode cX6_undetected 46 = .ok (.iconst 1, 1) := by decide +kernel
theorem dX6_undetected_47 : decode cX6_undetected 47 = .ok (.isub, 1) := by decide +kernel
theorem dX6_undetected_48 : decode cX6_undetected 48 = .ok (.iload_n 2, 1) := by decide +kernel
theorem dX6_undetected_49 : decode cX6_undetected 49 = .ok (.imul, 1) := by decide +kernel
theorem dX6_undetected_50 : decode cX6_undetected 50 = .ok (.iadd, 1) := by decide +kernel
theorem dX6_undetected_51 : decode cX6_undetected 51 = .ok (.sipush 5000, 3) := by decide +kernel
theorem dX6_undetected_54 : decode cX6_undetected 54 = .ok (.if_icmp .le 13, 3) := by decide +kernel
theorem dX6_undetected_57 : decode cX6_undetected 57 = .ok (.new 29, 3) := by decide +kernel
theorem dX6_undetected_60 : decode cX6_undetected 60 = .ok (.dup, 1) := by decide +kernel
theorem dX6_undetected_61 : decode cX6_undetected 61 = .ok (.ldc 231, 2) := by decide +kernel
theorem dX6_undetected_63 : decode cX6_undetected 63 = .ok (.invokespecial 33, 3) := by decide +kernel
theorem dX6_undetected_66 : decode cX6_undetected 66 = .ok (.athrow, 1) := by decide +kernel
theorem dX6_undetected_67 : decode cX6_undetected 67 = .ok (.aload_n 0, 1) := by decide +kernel
theorem dX6_undetected_68 : decode cX6_undetected 68 = .ok (.getfield 10, 3) := by decide +kernel
theorem dX6_undetected_71 : decode cX6_undetected 71 = .ok (.getfield 100, 3) := by decide +kernel
theorem dX6_undetected_74 : decode cX6_undetected 74 = .ok (.getfield 172, 3) := by decide +kernel
theorem dX6_undetected_77 : decode cX6_undetected 77 = .ok (.iconst 1, 1) := by decide +kernel
theorem dX6_undetected_78 : decode cX6_undetected 78 = .ok (.if_icmp .eq 13, 3) := by decide +kernel
theorem dX6_undetected_81 : decode cX6_undetected 81 = .ok (.new 149, 3) := by decide +kernel
theorem dX6_undetected_84 : decode cX6_undetected 84 = .ok (.dup, 1) := by decide +kernel
theorem dX6_undetected_85 : decode cX6_undetected 85 = .ok (.ldc 233, 2) := by decide +kernel
theorem dX6_undetected_87 : decode cX6_undetected 87 = .ok (.invokespecial 153, 3) := by decide +kernel
theorem dX6_undetected_90 : decode cX6_undetected 90 = .ok (.athrow, 1) := by decide +kernel
theorem dX6_undetected_91 : decode cX6_undetected 91 = .ok (.iconst 0, 1) := by decide +kernel
theorem dX6_undetected_92 : decode cX6_undetected 92 = .ok (.istore 5, 2) := by decide +kernel
theorem dX6_undetected_94 : decode cX6_undetected 94 = .ok (.iconst 0, 1) := by decide +kernel
theorem dX6_undetected_95 : decode cX6_undetected 95 = .ok (.istore 6, 2) := by decide +kernel
theorem dX6_undetected_97 : decode cX6_undetected 97 = .ok (.iload 6, 2) := by decide +kernel
theorem dX6_undetected_99 : decode cX6_undetected 99 = .ok (.iload_n 3, 1) := by decide +kernel
theorem dX6_undetected_100 : decode cX6_undetected 100 = .ok (.if_icmp .ge 52, 3) := by decide +kernel
theorem dX6_undetected_103 : decode cX6_undetected 103 = .ok (.iload_n 1, 1) := by decide +kernel
theorem dX6_undetected_104 : decode cX6_undetected 104 = .ok (.iload 6, 2) := by decide +kernel
theorem dX6_undetected_106 : decode cX6_undetected 106 = .ok (.iload_n 2, 1) := by decide +kernel
theorem dX6_undetected_107 : decode cX6_undetected 107 = .ok (.imul, 1) := by decide +kernel
theorem dX6_undetected_108 : decode cX6_undetected 108 = .ok (.iadd, 1) := by decide +kernel
theorem dX6_undetected_109 : decode cX6_undetected 109 = .ok (.istore 7, 2) := by decide +kernel
theorem dX6_undetected_111 : decode cX6_undetected 111 = .ok (.aload_n 0, 1) := by decide +kernel
theorem dX6_undetected_112 : decode cX6_undetected 112 = .ok (.iload 7, 2) := by decide +kernel
theorem dX6_undetected_114 : decode cX6_undetected 114 = .ok (.aload_n 0, 1) := by decide +kernel
theorem dX6_undetected_115 : decode cX6_undetected 115 = .ok (.getfield 10, 3) := by decide +kernel
theorem dX6_undetected_118 : decode cX6_undetected 118 = .ok (.getfield 36, 3) := by decide +kernel
theorem dX6_undetected_121 : decode cX6_undetected 121 = .ok (.getfield 239, 3) := by decide +kernel
theorem dX6_undetected_124 : decode cX6_undetected 124 = .ok (.aload_n 0, 1) := by decide +kernel
theorem dX6_undetected_125 : decode cX6_undetected 125 = .ok (.getfield 10, 3) := by decide +kernel
theorem dX6_undetected_128 : decode cX6_undetected 128 = .ok (.getfield 36, 3) := by decide +kernel
theorem dX6_undetected_131 : decode cX6_undetected 131 = .ok (.getfield 242, 3) := by decide +kernel
theorem dX6_undetected_134 : decode cX6_undetected 134 = .ok (.iload 4, 2) := by decide +kernel
theorem dX6_undetected_136 : decode cX6_undetected 136 = .ok (.invokevirtual 235, 3) := by decide +kernel
theorem dX6_undetected_139 : decode cX6_undetected 139 = .ok (.iconst (-1), 1) := by decide +kernel
theorem dX6_undetected_140 : decode cX6_undetected 140 = .ok (.if_icmp .ne 6, 3) := by decide +kernel
theorem dX6_undetected_143 : decode cX6_undetected 143 = .ok (.iinc 5 1, 3) := by decide +kernel
theorem dX6_undetected_146 : decode cX6_undetected 146 = .ok (.iinc 6 1, 3) := by decide +kernel
theorem dX6_undetected_149 : decode cX6_undetected 149 = .ok (.goto (-52), 3) := by decide +kernel
theorem dX6_undetected_152 : decode cX6_undetected 152 = .ok (.iload 5, 2) := by decide +kernel
theorem dX6_undetected_154 : decode cX6_undetected 154 = .ok (.ireturn, 1) := by decide +kernel
set_option maxRecDepth 20000 in
theorem ggX6_relockTime_X6_outside : GoodIn wsX6_relockTime wsX6_outside := goodIn_r _ [13] (by decide +kernel) (by decide +kernel)
set_option maxRecDepth 20000 in
theorem gX6_relockTime_X6_outside : GoodIn wsX6_relockTime (va_wsS RX6 23 yX6_outside wsX6_outside) := goodIn_app (goodIn_of _ (by decide +kernel)) ggX6_relockTime_X6_outside
set_option maxRecDepth 20000 in
theorem ggX6_relockTime_X5_takeFrom : GoodIn wsX6_relockTime wsX5_takeFrom := goodIn_r _ [18, 19, 20, 21, 22, 23, 24, 25, 26, 27, 28, 29, 30, 31, 32, 33, 34, 35, 36, 37, 38, 39, 40, 41, 42, 43, 44, 45, 46, 47, 48, 49, 50, 51, 52, 53, 54, 55, 56, 57, 12, 58, 59, 60, 61, 62, 63, 64, 65, 66, 67, 68, 69, 70, 71, 72, 73, 74, 75, 76, 77, 78, 79, 80, 81, 82, 83, 84, 85, 86, 87, 88, 89, 90, 91, 92, 93, 94, 95, 96, 97, 98, 99, 100, 101, 102, 103, 211, 212, 213, 214, 215, 216, 226, 227, 228, 229, 230, 231, 232, 233, 234, 217, 218, 219, 220, 221, 222, 223, 224, 225, 235, 236, 237, 238, 239, 240, 241, 242, 243, 244, 245, 246, 247, 248, 249, 250, 251, 252, 253, 254, 255, 256] (by decide +kernel) (by decide +kernel)
set_option maxRecDepth 20000 in
theorem gX6_relockTime_X5_takeFrom : GoodIn wsX6_relockTime (wsV RX6 245 RX5 yX5_takeFrom wsX5_takeFrom) := goodIn_app (goodIn_of _ (by decide +kernel)) ggX6_relockTime_X5_takeFrom
set_option maxRecDepth 20000 in
theorem ggX6_relockTime_X1_turn : GoodIn wsX6_relockTime wsX1_turn := goodIn_r _ [107, 32, 108, 109, 110, 111, 112, 226, 227, 228, 229, 230, 231, 232, 233, 234] (by decide +kernel) (by decide +kernel)
set_option maxRecDepth 20000 in
theorem gX6_relockTime_X1_turn : GoodIn wsX6_relockTime (wsV RX6 53 RX1 yX1_turn wsX1_turn) := goodIn_app (goodIn_of _ (by decide +kernel)) ggX6_relockTime_X1_turn
set_option maxRecDepth 20000 in
theorem ggX6_relockTime_X5_tick : GoodIn wsX6_relockTime wsX5_tick := goodIn_r _ [116, 19, 20, 22, 117, 21, 118, 119, 120, 121, 122, 123, 124, 125, 70, 126, 82, 127, 83, 128, 129, 130, 28, 131, 33, 34, 30, 35, 31, 132, 133, 134, 135, 36, 136, 60, 61, 62, 137, 138, 139, 140, 37, 38, 141, 12, 142, 143, 144, 59, 145, 146, 147, 148, 105, 106, 107, 32, 108, 109, 110, 111, 112, 149, 150, 151, 46, 152, 48, 49, 153, 154, 50, 51, 52, 53, 55, 155, 11, 13, 156, 157, 158, 159, 56, 160, 161, 162, 17, 163, 23, 164, 165, 166, 167, 54, 168, 169, 170, 171, 172, 24, 173, 174, 175, 99, 176, 101, 102, 103, 177, 178, 179, 180, 89, 181, 91, 92, 93, 95, 94, 182, 183, 184, 185, 186, 187, 188, 73, 76, 74, 189, 190, 191, 192, 193, 194, 195, 196, 197, 198, 78, 79, 80, 81, 199, 200, 201, 202, 203, 204, 205, 206, 84, 72, 85, 211, 212, 213, 214, 215, 216, 235, 236, 237, 238, 239, 240, 241, 242, 243, 244, 245, 246, 247, 248, 217, 218, 219, 220, 221, 222, 223, 224, 225, 226, 227, 228, 229, 230, 231, 232, 233, 234, 254, 255, 256, 249, 250, 251, 252, 253] (by decide +kernel) (by decide +kernel)
set_option maxRecDepth 20000 in
theorem gX6_relockTime_X5_tick : GoodIn wsX6_relockTime (wsV RX6 166 RX5 yX5_tick wsX5_tick) := goodIn_app (goodIn_of _ (by decide +kernel)) ggX6_relockTime_X5_tick
set_option maxRecDepth 20000 in
theorem ggX6_relockTime_X3_holdsLock : GoodIn wsX6_relockTime wsX3_holdsLock := goodIn_r _ [167, 55, 54, 217, 218, 219, 220, 221, 222, 223, 224, 225] (by decide +kernel) (by decide +kernel)
set_option maxRecDepth 20000 in
theorem gX6_relockTime_X3_holdsLock : GoodIn wsX6_relockTime (wsV RX6 175 RX3 yX3_holdsLock wsX3_holdsLock) := goodIn_app (goodIn_of _ (by decide +kernel)) ggX6_relockTime_X3_holdsLock
theorem dX6_relockTime_0 : decode cX6_relockTime 0 = .ok (.iload_n 1, 1) := by decide +kernel
theorem dX6_relockTime_1 : decode cX6_relockTime 1 = .ok (.ldc 49, 2) := by decide +kernel
theorem dX6_relockTime_3 : decode cX6_relockTime 3 = .ok (.ldc 50, 2) := by decide +kernel
theorem dX6_relockTime_5 : decode cX6_relockTime 5 = .ok (.invokestatic 23, 3) := by decide +kernel
theorem dX6_relockTime_8 : decode cX6_relockTime 8 = .ok (.ifCond .ne 14, 3) := by decide +kernel
theorem dX6_relockTime_11 : decode cX6_relockTime 11 = .ok (.iload_n 2, 1) := by decide +kernel
theorem dX6_relockTime_12 : decode cX6_relockTime 12 = .ok (.iconst 1, 1) := by decide +kernel
theorem dX6_relockTime_13 : decode cX6_relockTime 13 = .ok (.sipush 2000, 3) := by decide +kernel
theorem dX6_relockTime_16 : decode cX6_relockTime 16 = .ok (.invokestatic 23, 3) := by decide +kernel
theorem dX6_relockTime_19 : decode cX6_relockTime 19 = .ok (.ifCond .eq 13, 3) := by decide +kernel
theorem dX6_relockTime_22 : decode cX6_relockTime 22 = .ok (.new 29, 3) := by decide +kernel
theorem dX6_relockTime_25 : decode cX6_relockTime 25 = .ok (.dup, 1) := by decide +kernel
theorem dX6_relockTime_26 : decode cX6_relockTime 26 = .ok (.ldc 231, 2) := by decide +kernel
theorem dX6_relockTime_28 : decode cX6_relockTime 28 = .ok (.invokespecial 33, 3) := by decide +kernel
theorem dX6_relockTime_31 : decode cX6_relockTime 31 = .ok (.athrow, 1) := by decide +kernel
theorem dX6_relockTime_32 : decode cX6_relockTime 32 = .ok (.aload_n 0, 1) := by decide +kernel
theorem dX6_relockTime_33 : decode cX6_relockTime 33 = .ok (.getfield 16, 3) := by decide +kernel
theorem dX6_relockTime_36 : decode cX6_relockTime 36 = .ok (.aload_n 0, 1) := by decide +kernel
theorem dX6_relockTime_37 : decode cX6_relockTime 37 = .ok (.getfield 10, 3) := by decide +kernel
theorem dX6_relockTime_40 : decode cX6_relockTime 40 = .ok (.invokevirtual 245, 3) := by decide +kernel
theorem dX6_relockTime_43 : decode cX6_relockTime 43 = .ok (.aload_n 0, 1) := by decide +kernel
theorem dX6_relockTime_44 : decode cX6_relockTime 44 = .ok (.getfield 16, 3) := by decide +kernel
theorem dX6_relockTime_47 : decode cX6_relockTime 47 = .ok (.getfield 36, 3) := by decide +kernel
theorem dX6_relockTime_50 : decode cX6_relockTime 50 = .ok (.iload_n 1, 1) := by decide +kernel
theorem dX6_relockTime_51 : decode cX6_relockTime 51 = .ok (.invokevirtual 53, 3) := by decide +kernel
theorem dX6_relockTime_54 : decode cX6_relockTime 54 = .ok (.aload_n 0, 1) := by decide +kernel
theorem dX6_relockTime_55 : decode cX6_relockTime 55 = .ok (.getfield 16, 3) := by decide +kernel
theorem dX6_relockTime_58 : decode cX6_relockTime 58 = .ok (.getfield 75, 3) := by decide +kernel
theorem dX6_relockTime_61 : decode cX6_relockTime 61 = .ok (.iconst 0, 1) := by decide +kernel
theorem dX6_relockTime_62 : decode cX6_relockTime 62 = .ok (.putfield 189, 3) := by decide +kernel
theorem dX6_relockTime_65 : decode cX6_relockTime 65 = .ok (.iconst 1, 1) := by decide +kernel
theorem dX6_relockTime_66 : decode cX6_relockTime 66 = .ok (.istore_n 3, 1) := by decide +kernel
theorem dX6_relockTime_67 : decode cX6_relockTime 67 = .ok (.iload_n 3, 1) := by decide +kernel
theorem dX6_relockTime_68 : decode cX6_relockTime 68 = .ok (.iload_n 2, 1) := by decide +kernel
theorem dX6_relockTime_69 : decode cX6_relockTime 69 = .ok (.if_icmp .gt 31, 3) := by decide +kernel
theorem dX6_relockTime_72 : decode cX6_relockTime 72 = .ok (.aload_n 0, 1) := by decide +kernel
theorem dX6_relockTime_73 : decode cX6_relockTime 73 = .ok (.getfield 16, 3) := by decide +kernel
theorem dX6_relockTime_76 : decode cX6_relockTime 76 = .ok (.invokevirtual 166, 3) := by decide +kernel
theorem dX6_relockTime_79 : decode cX6_relockTime 79 = .ok (.aload_n 0, 1) := by decide +kernel
theorem dX6_relockTime_80 : decode cX6_relockTime 80 = .ok (.getfield 16, 3) := by decide +kernel
theorem dX6_relockTime_83 : decode cX6_relockTime 83 = .ok (.getfield 75, 3) := by decide +kernel
theorem dX6_relockTime_86 : decode cX6_relockTime 86 = .ok (.invokevirtual 175, 3) := by decide +kernel
theorem dX6_relockTime_89 : decode cX6_relockTime 89 = .ok (.ifCond .eq 5, 3) := by decide +kernel
theorem dX6_relockTime_92 : decode cX6_relockTime 92 = .ok (.iload_n 3, 1) := by decide +kernel
theorem dX6_relockTime_93 : decode cX6_relockTime 93 = .ok (.ireturn, 1) := by decide +kernel
theorem dX6_relockTime_94 : decode cX6_relockTime 94 = .ok (.iinc 3 1, 3) := by decide +kernel
theorem dX6_relockTime_97 : decode cX6_relockTime 97 = .ok (.goto (-30), 3) := by decide +kernel
theorem dX6_relockTime_100 : decode cX6_relockTime 100 = .ok (.iconst (-1), 1) := by decide +kernel
theorem dX6_relockTime_101 : decode cX6_relockTime 101 = .ok (.ireturn, 1) := by decide +kernel
set_option maxRecDepth 20000 in
theorem ggX6_save_X6_outside : GoodIn wsX6_save wsX6_outside := goodIn_r _ [11] (by decide +kernel) (by decide +kernel)
set_option maxRecDepth 20000 in
theorem gX6_save_X6_outside : GoodIn wsX6_save (va_wsS RX6 23 yX6_outside wsX6_outside) := goodIn_app (goodIn_of _ (by decide +kernel)) ggX6_save_X6_outside
set_option maxRecDepth 20000 in
theorem ggX6_save_X5_init : GoodIn wsX6_save wsX5_init := goodIn_r _ [13, 14, 15, 16, 17, 18, 19, 20, 21, 22, 23, 24, 25, 26, 27, 28, 29, 30, 31, 32, 33, 34, 35, 36, 37, 38, 39, 40, 41, 42, 43, 44, 45, 46, 47, 48, 49, 50, 51, 52, 53, 54, 55, 56, 57, 58, 59, 60, 61, 62, 63, 64, 65, 66, 67, 68, 69, 70, 71, 72, 73, 74, 75, 76, 77, 78, 79, 80, 81, 82, 83, 84, 85, 86, 87, 88, 89, 90, 91, 92, 93, 94, 95, 96, 97, 98, 140, 141, 142, 143, 144, 145, 146, 147, 148, 149, 150, 151, 152, 153, 154, 155, 156, 157, 158, 159, 160, 161, 162, 163, 164, 165, 166, 167, 168, 169, 170, 171, 172, 173, 174, 175, 176, 177, 178, 179, 180, 181, 182, 183, 184, 185] (by decide +kernel) (by decide +kernel)
set_option maxRecDepth 20000 in
theorem gX6_save_X5_init_n9 : GoodIn wsX6_save (wsX5_init) := ggX6_save_X5_init
set_option maxRecDepth 20000 in
theorem ggX6_save_X5_takeFrom : GoodIn wsX6_save wsX5_takeFrom := goodIn_r _ [102, 17, 21, 25, 29, 33, 37, 103, 104, 105, 20, 106, 41, 43, 44, 45, 46, 47, 48, 49, 50, 107, 108, 109, 110, 111, 112, 113, 24, 114, 55, 57, 58, 59, 60, 61, 62, 63, 65, 115, 10, 116, 117, 118, 119, 120, 121, 122, 123, 124, 125, 126, 127, 28, 128, 69, 70, 71, 72, 73, 74, 75, 76, 78, 80, 81, 82, 83, 84, 129, 130, 131, 32, 132, 88, 89, 90, 91, 92, 133, 134, 135, 36, 136, 96, 97, 98, 140, 141, 142, 143, 144, 145, 146, 147, 148, 149, 150, 151, 152, 153, 154, 155, 156, 157, 158, 159, 160, 161, 162, 163, 164, 165, 166, 167, 168, 169, 170, 171, 172, 173, 174, 175, 176, 177, 178, 179, 180, 181, 182, 183, 184, 185] (by decide +kernel) (by decide +kernel)
set_option maxRecDepth 20000 in
theorem gX6_save_X5_takeFrom : GoodIn wsX6_save (wsV RX6 245 RX5 yX5_takeFrom wsX5_takeFrom) := goodIn_app (goodIn_of _ (by decide +kernel)) ggX6_save_X5_takeFrom
theorem dX6_save_0 : decode cX6_save 0 = .ok (.iload_n 1, 1) := by decide +kernel
theorem dX6_save_1 : decode cX6_save 1 = .ok (.iconst 0, 1) := by decide +kernel
theorem dX6_save_2 : decode cX6_save 2 = .ok (.iconst 1, 1) := by decide +kernel
theorem dX6_save_3 : decode cX6_save 3 = .ok (.invokestatic 23, 3) := by decide +kernel
theorem dX6_save_6 : decode cX6_save 6 = .ok (.ifCond .eq 13, 3) := by decide +kernel
theorem dX6_save_9 : decode cX6_save 9 = .ok (.new 29, 3) := by decide +kernel
theorem dX6_save_12 : decode cX6_save 12 = .ok (.dup, 1) := by decide +kernel
theorem dX6_save_13 : decode cX6_save 13 = .ok (.ldc 249, 2) := by decide +kernel
theorem dX6_save_15 : decode cX6_save 15 = .ok (.invokespecial 33, 3) := by decide +kernel
theorem dX6_save_18 : decode cX6_save 18 = .ok (.athrow, 1) := by decide +kernel
theorem dX6_save_19 : decode cX6_save 19 = .ok (.aload_n 0, 1) := by decide +kernel
theorem dX6_save_20 : decode cX6_save 20 = .ok (.getfield 19, 3) := by decide +kernel
theorem dX6_save_23 : decode cX6_save 23 = .ok (.iload_n 1, 1) := by decide +kernel
theorem dX6_save_24 : decode cX6_save 24 = .ok (.aaload, 1) := by decide +kernel
theorem dX6_save_25 : decode cX6_save 25 = .ok (.astore_n 2, 1) := by decide +kernel
theorem dX6_save_26 : decode cX6_save 26 = .ok (.aload_n 2, 1) := by decide +kernel
theorem dX6_save_27 : decode cX6_save 27 = .ok (.ifnonnull 18, 3) := by decide +kernel
theorem dX6_save_30 : decode cX6_save 30 = .ok (.new 7, 3) := by decide +kernel
theorem dX6_save_33 : decode cX6_save 33 = .ok (.dup, 1) := by decide +kernel
theorem dX6_save_34 : decode cX6_save 34 = .ok (.invokespecial 9, 3) := by decide +kernel
theorem dX6_save_37 : decode cX6_save 37 = .ok (.astore_n 2, 1) := by decide +kernel
theorem dX6_save_38 : decode cX6_save 38 = .ok (.aload_n 0, 1) := by decide +kernel
theorem dX6_save_39 : decode cX6_save 39 = .ok (.getfield 19, 3) := by decide +kernel
theorem dX6_save_42 : decode cX6_save 42 = .ok (.iload_n 1, 1) := by decide +kernel
theorem dX6_save_43 : decode cX6_save 43 = .ok (.aload_n 2, 1) := by decide +kernel
theorem dX6_save_44 : decode cX6_save 44 = .ok (.aastore, 1) := by decide +kernel
theorem dX6_save_45 : decode cX6_save 45 = .ok (.aload_n 2, 1) := by decide +kernel
theorem dX6_save_46 : decode cX6_save 46 = .ok (.aload_n 0, 1) := by decide +kernel
theorem dX6_save_47 : decode cX6_save 47 = .ok (.getfield 10, 3) := by decide +kernel
theorem dX6_save_50 : decode cX6_save 50 = .ok (.invokevirtual 245, 3) := by decide +kernel
theorem dX6_save_53 : decode cX6_save 53 = .ok (.return_, 1) := by decide +kernel
set_option maxRecDepth 20000 in
theorem ggX6_restore_X6_outside : GoodIn wsX6_restore wsX6_outside := goodIn_r _ [10] (by decide +kernel) (by decide +kernel)
set_option maxRecDepth 20000 in
theorem gX6_restore_X6_outside : GoodIn wsX6_restore (va_wsS RX6 23 yX6_outside wsX6_outside) := goodIn_app (goodIn_of _ (by decide +kernel)) ggX6_restore_X6_outside
set_option maxRecDepth 20000 in
theorem ggX6_restore_X5_takeFrom : GoodIn wsX6_restore wsX5_takeFrom := goodIn_r _ [15, 16, 17, 18, 19, 20, 21, 22, 23, 24, 25, 26, 27, 28, 29, 30, 31, 32, 33, 34, 35, 36, 37, 38, 39, 40, 41, 42, 43, 44, 45, 46, 47, 48, 49, 50, 51, 52, 53, 54, 9, 55, 56, 57, 58, 59, 60, 61, 62, 63, 64, 65, 66, 67, 68, 69, 70, 71, 72, 73, 74, 75, 76, 77, 78, 79, 80, 81, 82, 83, 84, 85, 86, 87, 88, 89, 90, 91, 92, 93, 94, 95, 96, 97, 98, 99, 100, 104, 105, 106, 107, 108, 109, 110, 111, 112, 113, 114, 115, 116, 117, 118, 119, 120, 121, 122, 123, 124, 125, 126, 127, 128, 129, 130, 131, 132, 133, 134, 135, 136, 137, 138, 139, 140, 141, 142, 143, 144, 145, 146, 147, 148, 149] (by decide +kernel) (by decide +kernel)
set_option maxRecDepth 20000 in
theorem gX6_restore_X5_takeFrom : GoodIn wsX6_restore (wsV RX6 245 RX5 yX5_takeFrom wsX5_takeFrom) := goodIn_app (goodIn_of _ (by decide +kernel)) ggX6_restore_X5_takeFrom
theorem dX6_restore_0 : decode cX6_restore 0 = .ok (.iload_n 1, 1) := by decide +kernel
theorem dX6_restore_1 : decode cX6_restore 1 = .ok (.iconst 0, 1) := by decide +kernel
theorem dX6_restore_2 : decode cX6_restore 2 = .ok (.iconst 1, 1) := by decide +kernel
theorem dX6_restore_3 : decode cX6_restore 3 = .ok (.invokestatic 23, 3) := by decide +kernel
theorem dX6_restore_6 : decode cX6_restore 6 = .ok (.ifCond .eq 13, 3) := by decide +kernel
theorem dX6_restore_9 : decode cX6_restore 9 = .ok (.new 29, 3) := by decide +kernel
theorem dX6_restore_12 : decode cX6_restore 12 = .ok (.dup, 1) := by decide +kernel
theorem dX6_restore_13 : decode cX6_restore 13 = .ok (.ldc 249, 2) := by decide +kernel
theorem dX6_restore_15 : decode cX6_restore 15 = .ok (.invokespecial 33, 3) := by decide +kernel
theorem dX6_restore_18 : decode cX6_restore 18 = .ok (.athrow, 1) := by decide +kernel
theorem dX6_restore_19 : decode cX6_restore 19 = .ok (.aload_n 0, 1) := by decide +kernel
theorem dX6_restore_20 : decode cX6_restore 20 = .ok (.getfield 19, 3) := by decide +kernel
theorem dX6_restore_23 : decode cX6_restore 23 = .ok (.iload_n 1, 1) := by decide +kernel
theorem dX6_restore_24 : decode cX6_restore 24 = .ok (.aaload, 1) := by decide +kernel
theorem dX6_restore_25 : decode cX6_restore 25 = .ok (.astore_n 2, 1) := by decide +kernel
theorem dX6_restore_26 : decode cX6_restore 26 = .ok (.aload_n 2, 1) := by decide +kernel
theorem dX6_restore_27 : decode cX6_restore 27 = .ok (.ifnonnull 13, 3) := by decide +kernel
theorem dX6_restore_30 : decode cX6_restore 30 = .ok (.new 149, 3) := by decide +kernel
theorem dX6_restore_33 : decode cX6_restore 33 = .ok (.dup, 1) := by decide +kernel
theorem dX6_restore_34 : decode cX6_restore 34 = .ok (.ldc 251, 2) := by decide +kernel
theorem dX6_restore_36 : decode cX6_restore 36 = .ok (.invokespecial 153, 3) := by decide +kernel
theorem dX6_restore_39 : decode cX6_restore 39 = .ok (.athrow, 1) := by decide +kernel
theorem dX6_restore_40 : decode cX6_restore 40 = .ok (.aload_n 0, 1) := by decide +kernel
theorem dX6_restore_41 : decode cX6_restore 41 = .ok (.getfield 10, 3) := by decide +kernel
theorem dX6_restore_44 : decode cX6_restore 44 = .ok (.aload_n 2, 1) := by decide +kernel
theorem dX6_restore_45 : decode cX6_restore 45 = .ok (.invokevirtual 245, 3) := by decide +kernel
theorem dX6_restore_48 : decode cX6_restore 48 = .ok (.return_, 1) := by decide +kernel
set_option maxRecDepth 20000 in
theorem ggX6_ticksToDetect_X5_takeFrom : GoodIn wsX6_ticksToDetect wsX5_takeFrom := goodIn_r _ [11, 12, 13, 14, 15, 16, 17, 18, 19, 20, 21, 22, 23, 24, 25, 26, 27, 28, 29, 30, 31, 32, 33, 34, 35, 36, 37, 38, 39, 40, 41, 42, 43, 44, 45, 46, 47, 48, 49, 50, 51, 52, 53, 54, 55, 56, 57, 58, 59, 60, 61, 62, 63, 64, 65, 66, 67, 68, 69, 70, 71, 72, 73, 74, 75, 76, 77, 78, 79, 80, 81, 82, 83, 84, 85, 86, 87, 88, 89, 90, 91, 92, 93, 94, 95, 96, 97, 206, 207, 208, 209, 210, 211, 212, 213, 214, 215, 216, 217, 218, 219, 220, 235, 236, 237, 238, 239, 240, 241, 242, 243, 221, 222, 223, 224, 225, 226, 227, 228, 229, 230, 231, 232, 233, 234, 244, 245, 246, 247, 248, 249, 250, 251] (by decide +kernel) (by decide +kernel)
set_option maxRecDepth 20000 in
theorem gX6_ticksToDetect_X5_takeFrom : GoodIn wsX6_ticksToDetect (wsV RX6 245 RX5 yX5_takeFrom wsX5_takeFrom) := goodIn_app (goodIn_of _ (by decide +kernel)) ggX6_ticksToDetect_X5_takeFrom
set_option maxRecDepth 20000 in
theorem ggX6_ticksToDetect_X1_becomeIsland : GoodIn wsX6_ticksToDetect wsX1_becomeIsland := goodIn_r _ [35, 29, 30, 31, 212, 213, 214, 215, 216, 217, 218, 219, 220] (by decide +kernel) (by decide +kernel)
set_option maxRecDepth 20000 in
theorem gX6_ticksToDetect_X1_becomeIsland : GoodIn wsX6_ticksToDetect (wsV RX6 69 RX1 yX1_becomeIsland wsX1_becomeIsland) := goodIn_app (goodIn_of _ (by decide +kernel)) ggX6_ticksToDetect_X1_becomeIsland
set_option maxRecDepth 20000 in
theorem ggX6_ticksToDetect_X5_tick : GoodIn wsX6_ticksToDetect wsX5_tick := goodIn_r _ [102, 12, 13, 15, 103, 14, 104, 105, 106, 107, 108, 109, 110, 111, 64, 112, 76, 113, 77, 114, 115, 116, 21, 117, 26, 27, 23, 28, 24, 118, 119, 120, 121, 29, 122, 54, 55, 56, 123, 124, 125, 126, 30, 31, 127, 51, 128, 129, 130, 53, 131, 132, 133, 134, 135, 136, 137, 25, 138, 139, 140, 141, 142, 143, 144, 145, 39, 146, 41, 42, 147, 148, 43, 44, 45, 46, 48, 149, 150, 151, 152, 153, 154, 155, 49, 156, 157, 158, 10, 159, 16, 160, 161, 162, 163, 47, 164, 165, 166, 167, 168, 17, 169, 170, 171, 93, 172, 95, 96, 97, 173, 174, 175, 176, 83, 177, 85, 86, 87, 89, 88, 178, 179, 180, 181, 182, 183, 184, 67, 70, 68, 185, 186, 187, 188, 189, 190, 191, 192, 193, 194, 72, 73, 74, 75, 195, 196, 197, 198, 199, 200, 201, 202, 78, 66, 79, 206, 207, 208, 209, 210, 211, 221, 222, 223, 224, 225, 226, 227, 228, 229, 230, 231, 232, 233, 234, 235, 236, 237, 238, 239, 240, 241, 242, 243, 212, 213, 214, 215, 216, 217, 218, 219, 220, 249, 250, 251, 244, 245, 246, 247, 248] (by decide +kernel) (by decide +kernel)
set_option maxRecDepth 20000 in
theorem gX6_ticksToDetect_X5_tick : GoodIn wsX6_ticksToDetect (wsV RX6 166 RX5 yX5_tick wsX5_tick) := goodIn_app (goodIn_of _ (by decide +kernel)) ggX6_ticksToDetect_X5_tick
theorem dX6_ticksToDetect_0 : decode cX6_ticksToDetect 0 = .ok (.aload_n 0, 1) := by decide +kernel
theorem dX6_ticksToDetect_1 : decode cX6_ticksToDetect 1 = .ok (.getfield 16, 3) := by decide +kernel
theorem dX6_ticksToDetect_4 : decode cX6_ticksToDetect 4 = .ok (.aload_n 0, 1) := by decide +kernel
theorem dX6_ticksToDetect_5 : decode cX6_ticksToDetect 5 = .ok (.getfield 10, 3) := by decide +kernel
theorem dX6_ticksToDetect_8 : decode cX6_ticksToDetect 8 = .ok (.invokevirtual 245, 3) := by decide +kernel
theorem dX6_ticksToDetect_11 : decode cX6_ticksToDetect 11 = .ok (.aload_n 0, 1) := by decide +kernel
theorem dX6_ticksToDetect_12 : decode cX6_ticksToDetect 12 = .ok (.getfield 16, 3) := by decide +kernel
theorem dX6_ticksToDetect_15 : decode cX6_ticksToDetect 15 = .ok (.getfield 36, 3) := by decide +kernel
theorem dX6_ticksToDetect_18 : decode cX6_ticksToDetect 18 = .ok (.iload_n 1, 1) := by decide +kernel
theorem dX6_ticksToDetect_19 : decode cX6_ticksToDetect 19 = .ok (.iload_n 2, 1) := by decide +kernel
theorem dX6_ticksToDetect_20 : decode cX6_ticksToDetect 20 = .ok (.iload_n 3, 1) := by decide +kernel
theorem dX6_ticksToDetect_21 : decode cX6_ticksToDetect 21 = .ok (.invokevirtual 69, 3) := by decide +kernel
theorem dX6_ticksToDetect_24 : decode cX6_ticksToDetect 24 = .ok (.aload_n 0, 1) := by decide +kernel
theorem dX6_ticksToDetect_25 : decode cX6_ticksToDetect 25 = .ok (.getfield 16, 3) := by decide +kernel
theorem dX6_ticksToDetect_28 : decode cX6_ticksToDetect 28 = .ok (.getfield 36, 3) := by decide +kernel
theorem dX6_ticksToDetect_31 : decode cX6_ticksToDetect 31 = .ok (.iconst 0, 1) := by decide +kernel
theorem dX6_ticksToDetect_32 : decode cX6_ticksToDetect 32 = .ok (.putfield 60, 3) := by decide +kernel
theorem dX6_ticksToDetect_35 : decode cX6_ticksToDetect 35 = .ok (.iconst 1, 1) := by decide +kernel
theorem dX6_ticksToDetect_36 : decode cX6_ticksToDetect 36 = .ok (.istore 5, 2) := by decide +kernel
theorem dX6_ticksToDetect_38 : decode cX6_ticksToDetect 38 = .ok (.iload 5, 2) := by decide +kernel
theorem dX6_ticksToDetect_40 : decode cX6_ticksToDetect 40 = .ok (.iload 4, 2) := by decide +kernel
theorem dX6_ticksToDetect_42 : decode cX6_ticksToDetect 42 = .ok (.if_icmp .gt 33, 3) := by decide +kernel
theorem dX6_ticksToDetect_45 : decode cX6_ticksToDetect 45 = .ok (.aload_n 0, 1) := by decide +kernel
theorem dX6_ticksToDetect_46 : decode cX6_ticksToDetect 46 = .ok (.getfield 16, 3) := by decide +kernel
theorem dX6_ticksToDetect_49 : decode cX6_ticksToDetect 49 = .ok (.invokevirtual 166, 3) := by decide +kernel
theorem dX6_ticksToDetect_52 : decode cX6_ticksToDetect 52 = .ok (.aload_n 0, 1) := by decide +kernel
theorem dX6_ticksToDetect_53 : decode cX6_ticksToDetect 53 = .ok (.getfield 16, 3) := by decide +kernel
theorem dX6_ticksToDetect_56 : decode cX6_ticksToDetect 56 = .ok (.getfield 100, 3) := by decide +kernel
theorem dX6_ticksToDetect_59 : decode cX6_ticksToDetect 59 = .ok (.getfield 172, 3) := by decide +kernel
theorem dX6_ticksToDetect_62 : decode cX6_ticksToDetect 62 = .ok (.iconst 1, 1) := by decide +kernel
theorem dX6_ticksToDetect_63 : decode cX6_ticksToDetect 63 = .ok (.if_icmp .eq 6, 3) := by decide +kernel
theorem dX6_ticksToDetect_66 : decode cX6_ticksToDetect 66 = .ok (.iload 5, 2) := by decide +kernel
theorem dX6_ticksToDetect_68 : decode cX6_ticksToDetect 68 = .ok (.ireturn, 1) := by decide +kernel
theorem dX6_ticksToDetect_69 : decode cX6_ticksToDetect 69 = .ok (.iinc 5 1, 3) := by decide +kernel
theorem dX6_ticksToDetect_72 : decode cX6_ticksToDetect 72 = .ok (.goto (-34), 3) := by decide +kernel
theorem dX6_ticksToDetect_75 : decode cX6_ticksToDetect 75 = .ok (.iconst (-1), 1) := by decide +kernel
theorem dX6_ticksToDetect_76 : decode cX6_ticksToDetect 76 = .ok (.ireturn, 1) := by decide +kernel
set_option maxRecDepth 20000 in
theorem ggX6_badIsland_X6_outside : GoodIn wsX6_badIsland wsX6_outside := goodIn_r _ [6] (by decide +kernel) (by decide +kernel)
set_option maxRecDepth 20000 in
theorem gX6_badIsland_X6_outside : GoodIn wsX6_badIsland (va_wsS RX6 23 yX6_outside wsX6_outside) := goodIn_app (goodIn_of _ (by decide +kernel)) ggX6_badIsland_X6_outside
theorem dX6_badIsland_0 : decode cX6_badIsland 0 = .ok (.iload_n 0, 1) := by decide +kernel
theorem dX6_badIsland_1 : decode cX6_badIsland 1 = .ok (.iconst 1, 1) := by decide +kernel
theorem dX6_badIsland_2 : decode cX6_badIsland 2 = .ok (.sipush 5000, 3) := by decide +kernel
theorem dX6_badIsland_5 : decode cX6_badIsland 5 = .ok (.invokestatic 23, 3) := by decide +kernel
theorem dX6_badIsland_8 : decode cX6_badIsland 8 = .ok (.ifCond .ne 24, 3) := by decide +kernel
theorem dX6_badIsland_11 : decode cX6_badIsland 11 = .ok (.iload_n 1, 1) := by decide +kernel
theorem dX6_badIsland_12 : decode cX6_badIsland 12 = .ok (.ldc 27, 2) := by decide +kernel
theorem dX6_badIsland_14 : decode cX6_badIsland 14 = .ok (.ldc 28, 2) := by decide +kernel
theorem dX6_badIsland_16 : decode cX6_badIsland 16 = .ok (.invokestatic 23, 3) := by decide +kernel
theorem dX6_badIsland_19 : decode cX6_badIsland 19 = .ok (.ifCond .ne 13, 3) := by decide +kernel
theorem dX6_badIsland_22 : decode cX6_badIsland 22 = .ok (.iload_n 2, 1) := by decide +kernel
theorem dX6_badIsland_23 : decode cX6_badIsland 23 = .ok (.iconst 0, 1) := by decide +kernel
theorem dX6_badIsland_24 : decode cX6_badIsland 24 = .ok (.bipush 100, 2) := by decide +kernel
theorem dX6_badIsland_26 : decode cX6_badIsland 26 = .ok (.invokestatic 23, 3) := by decide +kernel
theorem dX6_badIsland_29 : decode cX6_badIsland 29 = .ok (.ifCond .eq 7, 3) := by decide +kernel
theorem dX6_badIsland_32 : decode cX6_badIsland 32 = .ok (.iconst 1, 1) := by decide +kernel
theorem dX6_badIsland_33 : decode cX6_badIsland 33 = .ok (.goto 4, 3) := by decide +kernel
theorem dX6_badIsland_36 : decode cX6_badIsland 36 = .ok (.iconst 0, 1) := by decide +kernel
theorem dX6_badIsland_37 : decode cX6_badIsland 37 = .ok (.ireturn, 1) := by decide +kernel
theorem dX6_outside_0 : decode cX6_outside 0 = .ok (.iload_n 0, 1) := by decide +kernel
theorem dX6_outside_1 : decode cX6_outside 1 = .ok (.iload_n 1, 1) := by decide +kernel
theorem dX6_outside_2 : decode cX6_outside 2 = .ok (.if_icmp .lt 8, 3) := by decide +kernel
theorem dX6_outside_5 : decode cX6_outside 5 = .ok (.iload_n 0, 1) := by decide +kernel
theorem dX6_outside_6 : decode cX6_outside 6 = .ok (.iload_n 2, 1) := by decide +kernel
theorem dX6_outside_7 : decode cX6_outside 7 = .ok (.if_icmp .le 7, 3) := by decide +kernel
theorem dX6_outside_10 : decode cX6_outside 10 = .ok (.iconst 1, 1) := by decide +kernel
theorem dX6_outside_11 : decode cX6_outside 11 = .ok (.goto 4, 3) := by decide +kernel
theorem dX6_outside_14 : decode cX6_outside 14 = .ok (.iconst 0, 1) := by decide +kernel
theorem dX6_outside_15 : decode cX6_outside 15 = .ok (.ireturn, 1) := by decide +kernel
theorem dX6_limitedFrequency_0 : decode cX6_limitedFrequency 0 = .ok (.ldc 96, 2) := by decide +kernel
theorem dX6_limitedFrequency_2 : decode cX6_limitedFrequency 2 = .ok (.iload_n 0, 1) := by decide +kernel
theorem dX6_limitedFrequency_3 : decode cX6_limitedFrequency 3 = .ok (.ldc 97, 2) := by decide +kernel
theorem dX6_limitedFrequency_5 : decode cX6_limitedFrequency 5 = .ok (.invokestatic 253, 3) := by decide +kernel
theorem dX6_limitedFrequency_8 : decode cX6_limitedFrequency 8 = .ok (.invokestatic 259, 3) := by decide +kernel
theorem dX6_limitedFrequency_11 : decode cX6_limitedFrequency 11 = .ok (.ireturn, 1) := by decide +kernel
theorem dX6_copyRow_0 : decode cX6_copyRow 0 = .ok (.aload_n 0, 1) := by decide +kernel
theorem dX6_copyRow_1 : decode cX6_copyRow 1 = .ok (.iconst 0, 1) := by decide +kernel
theorem dX6_copyRow_2 : decode cX6_copyRow 2 = .ok (.aload_n 1, 1) := by decide +kernel
theorem dX6_copyRow_3 : decode cX6_copyRow 3 = .ok (.iconst 0, 1) := by decide +kernel
theorem dX6_copyRow_4 : decode cX6_copyRow 4 = .ok (.aload_n 0, 1) := by decide +kernel
theorem dX6_copyRow_5 : decode cX6_copyRow 5 = .ok (.arraylength, 1) := by decide +kernel
theorem dX6_copyRow_6 : decode cX6_copyRow 6 = .ok (.aload_n 1, 1) := by decide +kernel
theorem dX6_copyRow_7 : decode cX6_copyRow 7 = .ok (.arraylength, 1) := by decide +kernel
theorem dX6_copyRow_8 : decode cX6_copyRow 8 = .ok (.invokestatic 253, 3) := by decide +kernel
theorem dX6_copyRow_11 : decode cX6_copyRow 11 = .ok (.invokestatic 262, 3) := by decide +kernel
theorem dX6_copyRow_14 : decode cX6_copyRow 14 = .ok (.return_, 1) := by decide +kernel
theorem dX7_init_0 : decode cX7_init 0 = .ok (.aload_n 0, 1) := by decide +kernel
theorem dX7_init_1 : decode cX7_init 1 = .ok (.invokespecial 1, 3) := by decide +kernel
theorem dX7_init_4 : decode cX7_init 4 = .ok (.aload_n 0, 1) := by decide +kernel
theorem dX7_init_5 : decode cX7_init 5 = .ok (.sipush 165, 3) := by decide +kernel
theorem dX7_init_8 : decode cX7_init 8 = .ok (.newarray .int, 2) := by decide +kernel
theorem dX7_init_10 : decode cX7_init 10 = .ok (.putfield 7, 3) := by decide +kernel
theorem dX7_init_13 : decode cX7_init 13 = .ok (.aload_n 0, 1) := by decide +kernel
theorem dX7_init_14 : decode cX7_init 14 = .ok (.sipush 165, 3) := by decide +kernel
theorem dX7_init_17 : decode cX7_init 17 = .ok (.newarray .int, 2) := by decide +kernel
theorem dX7_init_19 : decode cX7_init 19 = .ok (.putfield 13, 3) := by decide +kernel
theorem dX7_init_22 : decode cX7_init 22 = .ok (.aload_n 0, 1) := by decide +kernel
theorem dX7_init_23 : decode cX7_init 23 = .ok (.sipush 330, 3) := by decide +kernel
theorem dX7_init_26 : decode cX7_init 26 = .ok (.newarray .int, 2) := by decide +kernel
theorem dX7_init_28 : decode cX7_init 28 = .ok (.putfield 16, 3) := by decide +kernel
theorem dX7_init_31 : decode cX7_init 31 = .ok (.aload_n 0, 1) := by decide +kernel
theorem dX7_init_32 : decode cX7_init 32 = .ok (.iconst 2, 1) := by decide +kernel
theorem dX7_init_33 : decode cX7_init 33 = .ok (.newarray .long, 2) := by decide +kernel
theorem dX7_init_35 : decode cX7_init 35 = .ok (.putfield 19, 3) := by decide +kernel
theorem dX7_init_38 : decode cX7_init 38 = .ok (.aload_n 0, 1) := by decide +kernel
theorem dX7_init_39 : decode cX7_init 39 = .ok (.iconst 2, 1) := by decide +kernel
theorem dX7_init_40 : decode cX7_init 40 = .ok (.newarray .boolean, 2) := by decide +kernel
theorem dX7_init_42 : decode cX7_init 42 = .ok (.putfield 23, 3) := by decide +kernel
theorem dX7_init_45 : decode cX7_init 45 = .ok (.aload_n 0, 1) := by decide +kernel
theorem dX7_init_46 : decode cX7_init 46 = .ok (.getfield 7, 3) := by decide +kernel
theorem dX7_init_49 : decode cX7_init 49 = .ok (.iconst 1, 1) := by decide +kernel
theorem dX7_init_50 : decode cX7_init 50 = .ok (.sipush 230, 3) := by decide +kernel
theorem dX7_init_53 : decode cX7_init 53 = .ok (.iastore, 1) := by decide +kernel
theorem dX7_init_54 : decode cX7_init 54 = .ok (.aload_n 0, 1) := by decide +kernel
theorem dX7_init_55 : decode cX7_init 55 = .ok (.getfield 7, 3) := by decide +kernel
theorem dX7_init_58 : decode cX7_init 58 = .ok (.iconst 2, 1) := by decide +kernel
theorem dX7_init_59 : decode cX7_init 59 = .ok (.ldc 27, 2) := by decide +kernel
theorem dX7_init_61 : decode cX7_init 61 = .ok (.iastore, 1) := by decide +kernel
theorem dX7_init_62 : decode cX7_init 62 = .ok (.aload_n 0, 1) := by decide +kernel
theorem dX7_init_63 : decode cX7_init 63 = .ok (.getfield 7, 3) := by decide +kernel
theorem dX7_init_66 : decode cX7_init 66 = .ok (.bipush 10, 2) := by decide +kernel
theorem dX7_init_68 : decode cX7_init 68 = .ok (.iconst 1, 1) := by decide +kernel
theorem dX7_init_69 : decode cX7_init 69 = .ok (.iastore, 1) := by decide +kernel
theorem dX7_init_70 : decode cX7_init 70 = .ok (.aload_n 0, 1) := by decide +kernel
theorem dX7_init_71 : decode cX7_init 71 = .ok (.getfield 7, 3) := by decide +kernel
theorem dX7_init_74 : decode cX7_init 74 = .ok (.bipush 11, 2) := by decide +kernel
theorem dX7_init_76 : decode cX7_init 76 = .ok (.sipush 230, 3) := by decide +kernel
theorem dX7_init_79 : decode cX7_init 79 = .ok (.iastore, 1) := by decide +kernel
theorem dX7_init_80 : decode cX7_init 80 = .ok (.aload_n 0, 1) := by decide +kernel
theorem dX7_init_81 : decode cX7_init 81 = .ok (.getfield 7, 3) := by decide +kernel
theorem dX7_init_84 : decode cX7_init 84 = .ok (.bipush 12, 2) := by decide +kernel
theorem dX7_init_86 : decode cX7_init 86 = .ok (.ldc 27, 2) := by decide +kernel
theorem dX7_init_88 : decode cX7_init 88 = .ok (.iastore, 1) := by decide +kernel
theorem dX7_init_89 : decode cX7_init 89 = .ok (.aload_n 0, 1) := by decide +kernel
theorem dX7_init_90 : decode cX7_init 90 = .ok (.getfield 7, 3) := by decide +kernel
theorem dX7_init_93 : decode cX7_init 93 = .ok (.bipush 13, 2) := by decide +kernel
theorem dX7_init_95 : decode cX7_init 95 = .ok (.sipush 1000, 3) := by decide +kernel
theorem dX7_init_98 : decode cX7_init 98 = .ok (.iastore, 1) := by decide +kernel
theorem dX7_init_99 : decode cX7_init 99 = .ok (.aload_n 0, 1) := by decide +kernel
theorem dX7_init_100 : decode cX7_init 100 = .ok (.getfield 7, 3) := by decide +kernel
theorem dX7_init_103 : decode cX7_init 103 = .ok (.bipush 14, 2) := by decide +kernel
theorem dX7_init_105 : decode cX7_init 105 = .ok (.ldc 27, 2) := by decide +kernel
theorem dX7_init_107 : decode cX7_init 107 = .ok (.iastore, 1) := by decide +kernel
theorem dX7_init_108 : decode cX7_init 108 = .ok (.aload_n 0, 1) := by decide +kernel
theorem dX7_init_109 : decode cX7_init 109 = .ok (.getfield 7, 3) := by decide +kernel
theorem dX7_init_112 : decode cX7_init 112 = .ok (.bipush 15, 2) := by decide +kernel
theorem dX7_init_114 : decode cX7_init 114 = .ok (.bipush 10, 2) := by decide +kernel
theorem dX7_init_116 : decode cX7_init 116 = .ok (.iastore, 1) := by decide +kernel
theorem dX7_init_117 : decode cX7_init 117 = .ok (.aload_n 0, 1) := by decide +kernel
theorem dX7_init_118 : decode cX7_init 118 = .ok (.getfield 7, 3) := by decide +kernel
theorem dX7_init_121 : decode cX7_init 121 = .ok (.iconst 5, 1) := by decide +kernel
theorem dX7_init_122 : decode cX7_init 122 = .ok (.ldc 27, 2) := by decide +kernel
theorem dX7_init_124 : decode cX7_init 124 = .ok (.iastore, 1) := by decide +kernel
theorem dX7_init_125 : decode cX7_init 125 = .ok (.aload_n 0, 1) := by decide +kernel
theorem dX7_init_126 : decode cX7_init 126 = .ok (.getfield 7, 3) := by decide +kernel
theorem dX7_init_129 : decode cX7_init 129 = .ok (.bipush 16, 2) := by decide +kernel
theorem dX7_init_131 : decode cX7_init 131 = .ok (.sipush 200, 3) := by decide +kernel
theorem dX7_init_134 : decode cX7_init 134 = .ok (.iastore, 1) := by decide +kernel
theorem dX7_init_135 : decode cX7_init 135 = .ok (.aload_n 0, 1) := by decide +kernel
theorem dX7_init_136 : decode cX7_init 136 = .ok (.getfield 7, 3) := by decide +kernel
theorem dX7_init_139 : decode cX7_init 139 = .ok (.bipush 17, 2) := by decide +kernel
theorem dX7_init_141 : decode cX7_init 141 = .ok (.bipush 20, 2) := by decide +kernel
theorem dX7_init_143 : decode cX7_init 143 = .ok (.iastore, 1) := by decide +kernel
theorem dX7_init_144 : decode cX7_init 144 = .ok (.aload_n 0, 1) := by decide +kernel
theorem dX7_init_145 : decode cX7_init 145 = .ok (.getfield 7, 3) := by decide +kernel
theorem dX7_init_148 : decode cX7_init 148 = .ok (.bipush 18, 2) := by decide +kernel
theorem dX7_init_150 : decode cX7_init 150 = .ok (.sipush 5000, 3) := by decide +kernel
theorem dX7_init_153 : decode cX7_init 153 = .ok (.iastore, 1) := by decide +kernel
theorem dX7_init_154 : decode cX7_init 154 = .ok (.aload_n 0, 1) := by decide +kernel
theorem dX7_init_155 : decode cX7_init 155 = .ok (.getfield 7, 3) := by decide +kernel
theorem dX7_init_158 : decode cX7_init 158 = .ok (.bipush 19, 2) := by decide +kernel
theorem dX7_init_160 : decode cX7_init 160 = .ok (.bipush 100, 2) := by decide +kernel
theorem dX7_init_162 : decode cX7_init 162 = .ok (.iastore, 1) := by decide +kernel
theorem dX7_init_163 : decode cX7_init 163 = .ok (.aload_n 0, 1) := by decide +kernel
theorem dX7_init_164 : decode cX7_init 164 = .ok (.getfield 7, 3) := by decide +kernel
theorem dX7_init_167 : decode cX7_init 167 = .ok (.bipush 21, 2) := by decide +kernel
theorem dX7_init_169 : decode cX7_init 169 = .ok (.sipush 1000, 3) := by decide +kernel
theorem dX7_init_172 : decode cX7_init 172 = .ok (.iastore, 1) := by decide +kernel
theorem dX7_init_173 : decode cX7_init 173 = .ok (.aload_n 0, 1) := by decide +kernel
theorem dX7_init_174 : decode cX7_init 174 = .ok (.getfield 7, 3) := by decide +kernel
theorem dX7_init_177 : decode cX7_init 177 = .ok (.bipush 22, 2) := by decide +kernel
theorem dX7_init_179 : decode cX7_init 179 = .ok (.sipush 3000, 3) := by decide +kernel
theorem dX7_init_182 : decode cX7_init 182 = .ok (.iastore, 1) := by decide +kernel
theorem dX7_init_183 : decode cX7_init 183 = .ok (.aload_n 0, 1) := by decide +kernel
theorem dX7_init_184 : decode cX7_init 184 = .ok (.getfield 7, 3) := by decide +kernel
theorem dX7_init_187 : decode cX7_init 187 = .ok (.bipush 23, 2) := by decide +kernel
theorem dX7_init_189 : decode cX7_init 189 = .ok (.bipush 10, 2) := by decide +kernel
theorem dX7_init_191 : decode cX7_init 191 = .ok (.iastore, 1) := by decide +kernel
theorem dX7_init_192 : decode cX7_init 192 = .ok (.aload_n 0, 1) := by decide +kernel
theorem dX7_init_193 : decode cX7_init 193 = .ok (.getfield 7, 3) := by decide +kernel
theorem dX7_init_196 : decode cX7_init 196 = .ok (.bipush 24, 2) := by decide +kernel
theorem dX7_init_198 : decode cX7_init 198 = .ok (.sipush 207, 3) := by decide +kernel
theorem dX7_init_201 : decode cX7_init 201 = .ok (.iastore, 1) := by decide +kernel
theorem dX7_init_202 : decode cX7_init 202 = .ok (.aload_n 0, 1) := by decide +kernel
theorem dX7_init_203 : decode cX7_init 203 = .ok (.getfield 7, 3) := by decide +kernel
theorem dX7_init_206 : decode cX7_init 206 = .ok (.bipush 25, 2) := by decide +kernel
theorem dX7_init_208 : decode cX7_init 208 = .ok (.sipush 253, 3) := by decide +kernel
theorem dX7_init_211 : decode cX7_init 211 = .ok (.iastore, 1) := by decide +kernel
theorem dX7_init_212 : decode cX7_init 212 = .ok (.aload_n 0, 1) := by decide +kernel
theorem dX7_init_213 : decode cX7_init 213 = .ok (.getfield 7, 3) := by decide +kernel
theorem dX7_init_216 : decode cX7_init 216 = .ok (.bipush 26, 2) := by decide +kernel
theorem dX7_init_218 : decode cX7_init 218 = .ok (.ldc 28, 2) := by decide +kernel
theorem dX7_init_220 : decode cX7_init 220 = .ok (.iastore, 1) := by decide +kernel
theorem dX7_init_221 : decode cX7_init 221 = .ok (.aload_n 0, 1) := by decide +kernel
theorem dX7_init_222 : decode cX7_init 222 = .ok (.getfield 7, 3) := by decide +kernel
theorem dX7_init_225 : decode cX7_init 225 = .ok (.bipush 27, 2) := by decide +kernel
theorem dX7_init_227 : decode cX7_init 227 = .ok (.ldc 29, 2) := by decide +kernel
theorem dX7_init_229 : decode cX7_init 229 = .ok (.iastore, 1) := by decide +kernel
theorem dX7_init_230 : decode cX7_init 230 = .ok (.iconst 0, 1) := by decide +kernel
theorem dX7_init_231 : decode cX7_init 231 = .ok (.istore_n 1, 1) := by decide +kernel
theorem dX7_init_232 : decode cX7_init 232 = .ok (.iload_n 1, 1) := by decide +kernel
theorem dX7_init_233 : decode cX7_init 233 = .ok (.bipush 20, 2) := by decide +kernel
theorem dX7_init_235 : decode cX7_init 235 = .ok (.if_icmp .ge 20, 3) := by decide +kernel
theorem dX7_init_238 : decode cX7_init 238 = .ok (.aload_n 0, 1) := by decide +kernel
theorem dX7_init_239 : decode cX7_init 239 = .ok (.getfield 7, 3) := by decide +kernel
theorem dX7_init_242 : decode cX7_init 242 = .ok (.bipush 33, 2) := by decide +kernel
theorem dX7_init_244 : decode cX7_init 244 = .ok (.iload_n 1, 1) := by decide +kernel
theorem dX7_init_245 : decode cX7_init 245 = .ok (.iadd, 1) := by decide +kernel
theorem dX7_init_246 : decode cX7_init 246 = .ok (.ldc 27, 2) := by decide +kernel
theorem dX7_init_248 : decode cX7_init 248 = .ok (.iastore, 1) := by decide +kernel
theorem dX7_init_249 : decode cX7_init 249 = .ok (.iinc 1 1, 3) := by decide +kernel
theorem dX7_init_252 : decode cX7_init 252 = .ok (.goto (-20), 3) := by decide +kernel
theorem dX7_init_255 : decode cX7_init 255 = .ok (.return_, 1) := by decide +kernel
theorem dX7_thrown_0 : decode cX7_thrown 0 = .ok (.aload_n 0, 1) := by decide +kernel
theorem dX7_thrown_1 : decode cX7_thrown 1 = .ok (.getfield 30, 3) := by decide +kernel
theorem dX7_thrown_4 : decode cX7_thrown 4 = .ok (.ireturn, 1) := by decide +kernel
theorem dX7_in_0 : decode cX7_in 0 = .ok (.iload_n 0, 1) := by decide +kernel
theorem dX7_in_1 : decode cX7_in 1 = .ok (.iload_n 1, 1) := by decide +kernel
theorem dX7_in_2 : decode cX7_in 2 = .ok (.if_icmp .lt 12, 3) := by decide +kernel
theorem dX7_in_5 : decode cX7_in 5 = .ok (.iload_n 0, 1) := by decide +kernel
theorem dX7_in_6 : decode cX7_in 6 = .ok (.iload_n 2, 1) := by decide +kernel
theorem dX7_in_7 : decode cX7_in 7 = .ok (.if_icmp .gt 7, 3) := by decide +kernel
theorem dX7_in_10 : decode cX7_in 10 = .ok (.iconst 1, 1) := by decide +kernel
theorem dX7_in_11 : decode cX7_in 11 = .ok (.goto 4, 3) := by decide +kernel
theorem dX7_in_14 : decode cX7_in 14 = .ok (.iconst 0, 1) := by decide +kernel
theorem dX7_in_15 : decode cX7_in 15 = .ok (.ireturn, 1) := by decide +kernel
theorem dX7_round_0 : decode cX7_round 0 = .ok (.iload_n 0, 1) := by decide +kernel
theorem dX7_round_1 : decode cX7_round 1 = .ok (.ldc 34, 2) := by decide +kernel
theorem dX7_round_3 : decode cX7_round 3 = .ok (.irem, 1) := by decide +kernel
theorem dX7_round_4 : decode cX7_round 4 = .ok (.istore_n 1, 1) := by decide +kernel
theorem dX7_round_5 : decode cX7_round 5 = .ok (.iload_n 1, 1) := by decide +kernel
theorem dX7_round_6 : decode cX7_round 6 = .ok (.ifCond .ge 10, 3) := by decide +kernel
theorem dX7_round_9 : decode cX7_round 9 = .ok (.iload_n 1, 1) := by decide +kernel
theorem dX7_round_10 : decode cX7_round 10 = .ok (.ldc 34, 2) := by decide +kernel
theorem dX7_round_12 : decode cX7_round 12 = .ok (.iadd, 1) := by decide +kernel
theorem dX7_round_13 : decode cX7_round 13 = .ok (.goto 4, 3) := by decide +kernel
theorem dX7_round_16 : decode cX7_round 16 = .ok (.iload_n 1, 1) := by decide +kernel
theorem dX7_round_17 : decode cX7_round 17 = .ok (.ireturn, 1) := by decide +kernel
theorem dX7_limited_0 : decode cX7_limited 0 = .ok (.iload_n 0, 1) := by decide +kernel
theorem dX7_limited_1 : decode cX7_limited 1 = .ok (.iload_n 1, 1) := by decide +kernel
theorem dX7_limited_2 : decode cX7_limited 2 = .ok (.if_icmp .ge 7, 3) := by decide +kernel
theorem dX7_limited_5 : decode cX7_limited 5 = .ok (.iload_n 1, 1) := by decide +kernel
theorem dX7_limited_6 : decode cX7_limited 6 = .ok (.goto 13, 3) := by decide +kernel
theorem dX7_limited_9 : decode cX7_limited 9 = .ok (.iload_n 0, 1) := by decide +kernel
theorem dX7_limited_10 : decode cX7_limited 10 = .ok (.iload_n 2, 1) := by decide +kernel
theorem dX7_limited_11 : decode cX7_limited 11 = .ok (.if_icmp .le 7, 3) := by decide +kernel
theorem dX7_limited_14 : decode cX7_limited 14 = .ok (.iload_n 2, 1) := by decide +kernel
theorem dX7_limited_15 : decode cX7_limited 15 = .ok (.goto 4, 3) := by decide +kernel
theorem dX7_limited_18 : decode cX7_limited 18 = .ok (.iload_n 0, 1) := by decide +kernel
theorem dX7_limited_19 : decode cX7_limited 19 = .ok (.ireturn, 1) := by decide +kernel
set_option maxRecDepth 20000 in
theorem ggX7_setGrid_X7_in : GoodIn wsX7_setGrid wsX7_in := goodIn_r _ [8] (by decide +kernel) (by decide +kernel)
set_option maxRecDepth 20000 in
theorem gX7_setGrid_X7_in : GoodIn wsX7_setGrid (va_wsS RX7 35 yX7_in wsX7_in) := goodIn_app (goodIn_of _ (by decide +kernel)) ggX7_setGrid_X7_in
theorem dX7_setGrid_0 : decode cX7_setGrid 0 = .ok (.aload_n 0, 1) := by decide +kernel
theorem dX7_setGrid_1 : decode cX7_setGrid 1 = .ok (.iload_n 1, 1) := by decide +kernel
theorem dX7_setGrid_2 : decode cX7_setGrid 2 = .ok (.iconst 0, 1) := by decide +kernel
theorem dX7_setGrid_3 : decode cX7_setGrid 3 = .ok (.sipush 400, 3) := by decide +kernel
theorem dX7_setGrid_6 : decode cX7_setGrid 6 = .ok (.invokestatic 35, 3) := by decide +kernel
theorem dX7_setGrid_9 : decode cX7_setGrid 9 = .ok (.ifCond .eq 18, 3) := by decide +kernel
theorem dX7_setGrid_12 : decode cX7_setGrid 12 = .ok (.iload_n 2, 1) := by decide +kernel
theorem dX7_setGrid_13 : decode cX7_setGrid 13 = .ok (.ldc 39, 2) := by decide +kernel
theorem dX7_setGrid_15 : decode cX7_setGrid 15 = .ok (.ldc 40, 2) := by decide +kernel
theorem dX7_setGrid_17 : decode cX7_setGrid 17 = .ok (.invokestatic 35, 3) := by decide +kernel
theorem dX7_setGrid_20 : decode cX7_setGrid 20 = .ok (.ifCond .eq 7, 3) := by decide +kernel
theorem dX7_setGrid_23 : decode cX7_setGrid 23 = .ok (.iconst 0, 1) := by decide +kernel
theorem dX7_setGrid_24 : decode cX7_setGrid 24 = .ok (.goto 4, 3) := by decide +kernel
theorem dX7_setGrid_27 : decode cX7_setGrid 27 = .ok (.iconst 1, 1) := by decide +kernel
theorem dX7_setGrid_28 : decode cX7_setGrid 28 = .ok (.putfield 30, 3) := by decide +kernel
theorem dX7_setGrid_31 : decode cX7_setGrid 31 = .ok (.aload_n 0, 1) := by decide +kernel
theorem dX7_setGrid_32 : decode cX7_setGrid 32 = .ok (.getfield 30, 3) := by decide +kernel
theorem dX7_setGrid_35 : decode cX7_setGrid 35 = .ok (.ifCond .ne 19, 3) := by decide +kernel
theorem dX7_setGrid_38 : decode cX7_setGrid 38 = .ok (.aload_n 0, 1) := by decide +kernel
theorem dX7_setGrid_39 : decode cX7_setGrid 39 = .ok (.getfield 7, 3) := by decide +kernel
theorem dX7_setGrid_42 : decode cX7_setGrid 42 = .ok (.bipush 11, 2) := by decide +kernel
theorem dX7_setGrid_44 : decode cX7_setGrid 44 = .ok (.iload_n 1, 1) := by decide +kernel
theorem dX7_setGrid_45 : decode cX7_setGrid 45 = .ok (.iastore, 1) := by decide +kernel
theorem dX7_setGrid_46 : decode cX7_setGrid 46 = .ok (.aload_n 0, 1) := by decide +kernel
theorem dX7_setGrid_47 : decode cX7_setGrid 47 = .ok (.getfield 7, 3) := by decide +kernel
theorem dX7_setGrid_50 : decode cX7_setGrid 50 = .ok (.bipush 12, 2) := by decide +kernel
theorem dX7_setGrid_52 : decode cX7_setGrid 52 = .ok (.iload_n 2, 1) := by decide +kernel
theorem dX7_setGrid_53 : decode cX7_setGrid 53 = .ok (.iastore, 1) := by decide +kernel
theorem dX7_setGrid_54 : decode cX7_setGrid 54 = .ok (.return_, 1) := by decide +kernel
set_option maxRecDepth 20000 in
theorem ggX7_jump_X7_in : GoodIn wsX7_jump wsX7_in := goodIn_r _ [8] (by decide +kernel) (by decide +kernel)
set_option maxRecDepth 20000 in
theorem gX7_jump_X7_in : GoodIn wsX7_jump (va_wsS RX7 35 yX7_in wsX7_in) := goodIn_app (goodIn_of _ (by decide +kernel)) ggX7_jump_X7_in
set_option maxRecDepth 20000 in
theorem ggX7_jump_X7_round : GoodIn wsX7_jump wsX7_round := goodIn_r _ [11, 12] (by decide +kernel) (by decide +kernel)
set_option maxRecDepth 20000 in
theorem gX7_jump_X7_round : GoodIn wsX7_jump (va_wsS RX7 43 yX7_round wsX7_round) := goodIn_app (goodIn_of _ (by decide +kernel)) ggX7_jump_X7_round
theorem dX7_jump_0 : decode cX7_jump 0 = .ok (.aload_n 0, 1) := by decide +kernel
theorem dX7_jump_1 : decode cX7_jump 1 = .ok (.iload_n 1, 1) := by decide +kernel
theorem dX7_jump_2 : decode cX7_jump 2 = .ok (.ldc 41, 2) := by decide +kernel
theorem dX7_jump_4 : decode cX7_jump 4 = .ok (.ldc 42, 2) := by decide +kernel
theorem dX7_jump_6 : decode cX7_jump 6 = .ok (.invokestatic 35, 3) := by decide +kernel
theorem dX7_jump_9 : decode cX7_jump 9 = .ok (.ifCond .eq 7, 3) := by decide +kernel
theorem dX7_jump_12 : decode cX7_jump 12 = .ok (.iconst 0, 1) := by decide +kernel
theorem dX7_jump_13 : decode cX7_jump 13 = .ok (.goto 4, 3) := by decide +kernel
theorem dX7_jump_16 : decode cX7_jump 16 = .ok (.iconst 1, 1) := by decide +kernel
theorem dX7_jump_17 : decode cX7_jump 17 = .ok (.putfield 30, 3) := by decide +kernel
theorem dX7_jump_20 : decode cX7_jump 20 = .ok (.aload_n 0, 1) := by decide +kernel
theorem dX7_jump_21 : decode cX7_jump 21 = .ok (.getfield 30, 3) := by decide +kernel
theorem dX7_jump_24 : decode cX7_jump 24 = .ok (.ifCond .eq 5, 3) := by decide +kernel
theorem dX7_jump_27 : decode cX7_jump 27 = .ok (.iconst 0, 1) := by decide +kernel
theorem dX7_jump_28 : decode cX7_jump 28 = .ok (.ireturn, 1) := by decide +kernel
theorem dX7_jump_29 : decode cX7_jump 29 = .ok (.aload_n 0, 1) := by decide +kernel
theorem dX7_jump_30 : decode cX7_jump 30 = .ok (.getfield 7, 3) := by decide +kernel
theorem dX7_jump_33 : decode cX7_jump 33 = .ok (.iconst 3, 1) := by decide +kernel
theorem dX7_jump_34 : decode cX7_jump 34 = .ok (.aload_n 0, 1) := by decide +kernel
theorem dX7_jump_35 : decode cX7_jump 35 = .ok (.getfield 7, 3) := by decide +kernel
theorem dX7_jump_38 : decode cX7_jump 38 = .ok (.iconst 3, 1) := by decide +kernel
theorem dX7_jump_39 : decode cX7_jump 39 = .ok (.iaload, 1) := by decide +kernel
theorem dX7_jump_40 : decode cX7_jump 40 = .ok (.iload_n 1, 1) := by decide +kernel
theorem dX7_jump_41 : decode cX7_jump 41 = .ok (.iadd, 1) := by decide +kernel
theorem dX7_jump_42 : decode cX7_jump 42 = .ok (.invokestatic 43, 3) := by decide +kernel
theorem dX7_jump_45 : decode cX7_jump 45 = .ok (.iastore, 1) := by decide +kernel
theorem dX7_jump_46 : decode cX7_jump 46 = .ok (.aload_n 0, 1) := by decide +kernel
theorem dX7_jump_47 : decode cX7_jump 47 = .ok (.getfield 7, 3) := by decide +kernel
theorem dX7_jump_50 : decode cX7_jump 50 = .ok (.iconst 3, 1) := by decide +kernel
theorem dX7_jump_51 : decode cX7_jump 51 = .ok (.iaload, 1) := by decide +kernel
theorem dX7_jump_52 : decode cX7_jump 52 = .ok (.ireturn, 1) := by decide +kernel
theorem dX7_connect_0 : decode cX7_connect 0 = .ok (.aload_n 0, 1) := by decide +kernel
theorem dX7_connect_1 : decode cX7_connect 1 = .ok (.iconst 0, 1) := by decide +kernel
theorem dX7_connect_2 : decode cX7_connect 2 = .ok (.putfield 30, 3) := by decide +kernel
theorem dX7_connect_5 : decode cX7_connect 5 = .ok (.aload_n 0, 1) := by decide +kernel
theorem dX7_connect_6 : decode cX7_connect 6 = .ok (.getfield 7, 3) := by decide +kernel
theorem dX7_connect_9 : decode cX7_connect 9 = .ok (.bipush 10, 2) := by decide +kernel
theorem dX7_connect_11 : decode cX7_connect 11 = .ok (.iaload, 1) := by decide +kernel
theorem dX7_connect_12 : decode cX7_connect 12 = .ok (.iconst 1, 1) := by decide +kernel
theorem dX7_connect_13 : decode cX7_connect 13 = .ok (.if_icmp .ne 7, 3) := by decide +kernel
theorem dX7_connect_16 : decode cX7_connect 16 = .ok (.iconst 1, 1) := by decide +kernel
theorem dX7_connect_17 : decode cX7_connect 17 = .ok (.goto 4, 3) := by decide +kernel
theorem dX7_connect_20 : decode cX7_connect 20 = .ok (.iconst 0, 1) := by decide +kernel
theorem dX7_connect_21 : decode cX7_connect 21 = .ok (.istore_n 2, 1) := by decide +kernel
theorem dX7_connect_22 : decode cX7_connect 22 = .ok (.aload_n 0, 1) := by decide +kernel
theorem dX7_connect_23 : decode cX7_connect 23 = .ok (.getfield 7, 3) := by decide +kernel
theorem dX7_connect_26 : decode cX7_connect 26 = .ok (.bipush 10, 2) := by decide +kernel
theorem dX7_connect_28 : decode cX7_connect 28 = .ok (.iload_n 1, 1) := by decide +kernel
theorem dX7_connect_29 : decode cX7_connect 29 = .ok (.ifCond .eq 7, 3) := by decide +kernel
theorem dX7_connect_32 : decode cX7_connect 32 = .ok (.iconst 1, 1) := by decide +kernel
theorem dX7_connect_33 : decode cX7_connect 33 = .ok (.goto 4, 3) := by decide +kernel
theorem dX7_connect_36 : decode cX7_connect 36 = .ok (.iconst 0, 1) := by decide +kernel
theorem dX7_connect_37 : decode cX7_connect 37 = .ok (.iastore, 1) := by decide +kernel
theorem dX7_connect_38 : decode cX7_connect 38 = .ok (.iload_n 2, 1) := by decide +kernel
theorem dX7_connect_39 : decode cX7_connect 39 = .ok (.ireturn, 1) := by decide +kernel
set_option maxRecDepth 20000 in
theorem ggX7_isIsland_X7_in : GoodIn wsX7_isIsland wsX7_in := goodIn_r _ [6] (by decide +kernel) (by decide +kernel)
set_option maxRecDepth 20000 in
theorem gX7_isIsland_X7_in : GoodIn wsX7_isIsland (va_wsS RX7 35 yX7_in wsX7_in) := goodIn_app (goodIn_of _ (by decide +kernel)) ggX7_isIsland_X7_in
theorem dX7_isIsland_0 : decode cX7_isIsland 0 = .ok (.iload_n 0, 1) := by decide +kernel
theorem dX7_isIsland_1 : decode cX7_isIsland 1 = .ok (.iconst 1, 1) := by decide +kernel
theorem dX7_isIsland_2 : decode cX7_isIsland 2 = .ok (.sipush 5000, 3) := by decide +kernel
theorem dX7_isIsland_5 : decode cX7_isIsland 5 = .ok (.invokestatic 35, 3) := by decide +kernel
theorem dX7_isIsland_8 : decode cX7_isIsland 8 = .ok (.ifCond .eq 28, 3) := by decide +kernel
theorem dX7_isIsland_11 : decode cX7_isIsland 11 = .ok (.iload_n 1, 1) := by decide +kernel
theorem dX7_isIsland_12 : decode cX7_isIsland 12 = .ok (.ldc 39, 2) := by decide +kernel
theorem dX7_isIsland_14 : decode cX7_isIsland 14 = .ok (.ldc 40, 2) := by decide +kernel
theorem dX7_isIsland_16 : decode cX7_isIsland 16 = .ok (.invokestatic 35, 3) := by decide +kernel
theorem dX7_isIsland_19 : decode cX7_isIsland 19 = .ok (.ifCond .eq 17, 3) := by decide +kernel
theorem dX7_isIsland_22 : decode cX7_isIsland 22 = .ok (.iload_n 2, 1) := by decide +kernel
theorem dX7_isIsland_23 : decode cX7_isIsland 23 = .ok (.iconst 0, 1) := by decide +kernel
theorem dX7_isIsland_24 : decode cX7_isIsland 24 = .ok (.bipush 100, 2) := by decide +kernel
theorem dX7_isIsland_26 : decode cX7_isIsland 26 = .ok (.invokestatic 35, 3) := by decide +kernel
theorem dX7_isIsland_29 : decode cX7_isIsland 29 = .ok (.ifCond .eq 7, 3) := by decide +kernel
theorem dX7_isIsland_32 : decode cX7_isIsland 32 = .ok (.iconst 1, 1) := by decide +kernel
theorem dX7_isIsland_33 : decode cX7_isIsland 33 = .ok (.goto 4, 3) := by decide +kernel
theorem dX7_isIsland_36 : decode cX7_isIsland 36 = .ok (.iconst 0, 1) := by decide +kernel
theorem dX7_isIsland_37 : decode cX7_isIsland 37 = .ok (.ireturn, 1) := by decide +kernel
theorem dX7_becomeIsland_0 : decode cX7_becomeIsland 0 = .ok (.aload_n 0, 1) := by decide +kernel
theorem dX7_becomeIsland_1 : decode cX7_becomeIsland 1 = .ok (.getfield 7, 3) := by decide +kernel
theorem dX7_becomeIsland_4 : decode cX7_becomeIsland 4 = .ok (.bipush 13, 2) := by decide +kernel
theorem dX7_becomeIsland_6 : decode cX7_becomeIsland 6 = .ok (.iload_n 1, 1) := by decide +kernel
theorem dX7_becomeIsland_7 : decode cX7_becomeIsland 7 = .ok (.iastore, 1) := by decide +kernel
theorem dX7_becomeIsland_8 : decode cX7_becomeIsland 8 = .ok (.aload_n 0, 1) := by decide +kernel
theorem dX7_becomeIsland_9 : decode cX7_becomeIsland 9 = .ok (.getfield 7, 3) := by decide +kernel
theorem dX7_becomeIsland_12 : decode cX7_becomeIsland 12 = .ok (.bipush 14, 2) := by decide +kernel
theorem dX7_becomeIsland_14 : decode cX7_becomeIsland 14 = .ok (.iload_n 2, 1) := by decide +kernel
theorem dX7_becomeIsland_15 : decode cX7_becomeIsland 15 = .ok (.iastore, 1) := by decide +kernel
theorem dX7_becomeIsland_16 : decode cX7_becomeIsland 16 = .ok (.aload_n 0, 1) := by decide +kernel
theorem dX7_becomeIsland_17 : decode cX7_becomeIsland 17 = .ok (.getfield 7, 3) := by decide +kernel
theorem dX7_becomeIsland_20 : decode cX7_becomeIsland 20 = .ok (.bipush 15, 2) := by decide +kernel
theorem dX7_becomeIsland_22 : decode cX7_becomeIsland 22 = .ok (.iload_n 3, 1) := by decide +kernel
theorem dX7_becomeIsland_23 : decode cX7_becomeIsland 23 = .ok (.iastore, 1) := by decide +kernel
theorem dX7_becomeIsland_24 : decode cX7_becomeIsland 24 = .ok (.return_, 1) := by decide +kernel
set_option maxRecDepth 20000 in
theorem ggX7_setLoad_X7_isIsland : GoodIn wsX7_setLoad wsX7_isIsland := goodIn_r _ [5, 6, 7, 8, 9, 4, 10] (by decide +kernel) (by decide +kernel)
set_option maxRecDepth 20000 in
theorem gX7_setLoad_X7_isIsland : GoodIn wsX7_setLoad (va_wsS RX7 47 yX7_isIsland wsX7_isIsland) := goodIn_app (goodIn_of _ (by decide +kernel)) ggX7_setLoad_X7_isIsland
set_option maxRecDepth 20000 in
theorem ggX7_setLoad_X7_becomeIsland : GoodIn wsX7_setLoad wsX7_becomeIsland := goodIn_r _ [14, 15, 16, 17, 18, 19, 20, 21, 22] (by decide +kernel) (by decide +kernel)
set_option maxRecDepth 20000 in
theorem gX7_setLoad_X7_becomeIsland : GoodIn wsX7_setLoad (wsV RX7 50 RX7 yX7_becomeIsland wsX7_becomeIsland) := goodIn_app (goodIn_of _ (by decide +kernel)) ggX7_setLoad_X7_becomeIsland
theorem dX7_setLoad_0 : decode cX7_setLoad 0 = .ok (.aload_n 0, 1) := by decide +kernel
theorem dX7_setLoad_1 : decode cX7_setLoad 1 = .ok (.iload_n 1, 1) := by decide +kernel
theorem dX7_setLoad_2 : decode cX7_setLoad 2 = .ok (.iload_n 2, 1) := by decide +kernel
theorem dX7_setLoad_3 : decode cX7_setLoad 3 = .ok (.iload_n 3, 1) := by decide +kernel
theorem dX7_setLoad_4 : decode cX7_setLoad 4 = .ok (.invokestatic 47, 3) := by decide +kernel
theorem dX7_setLoad_7 : decode cX7_setLoad 7 = .ok (.ifCond .eq 7, 3) := by decide +kernel
theorem dX7_setLoad_10 : decode cX7_setLoad 10 = .ok (.iconst 0, 1) := by decide +kernel
theorem dX7_setLoad_11 : decode cX7_setLoad 11 = .ok (.goto 4, 3) := by decide +kernel
theorem dX7_setLoad_14 : decode cX7_setLoad 14 = .ok (.iconst 1, 1) := by decide +kernel
theorem dX7_setLoad_15 : decode cX7_setLoad 15 = .ok (.putfield 30, 3) := by decide +kernel
theorem dX7_setLoad_18 : decode cX7_setLoad 18 = .ok (.aload_n 0, 1) := by decide +kernel
theorem dX7_setLoad_19 : decode cX7_setLoad 19 = .ok (.getfield 30, 3) := by decide +kernel
theorem dX7_setLoad_22 : decode cX7_setLoad 22 = .ok (.ifCond .ne 10, 3) := by decide +kernel
theorem dX7_setLoad_25 : decode cX7_setLoad 25 = .ok (.aload_n 0, 1) := by decide +kernel
theorem dX7_setLoad_26 : decode cX7_setLoad 26 = .ok (.iload_n 1, 1) := by decide +kernel
theorem dX7_setLoad_27 : decode cX7_setLoad 27 = .ok (.iload_n 2, 1) := by decide +kernel
theorem dX7_setLoad_28 : decode cX7_setLoad 28 = .ok (.iload_n 3, 1) := by decide +kernel
theorem dX7_setLoad_29 : decode cX7_setLoad 29 = .ok (.invokevirtual 50, 3) := by decide +kernel
theorem dX7_setLoad_32 : decode cX7_setLoad 32 = .ok (.return_, 1) := by decide +kernel
set_option maxRecDepth 20000 in
theorem ggX7_setLoop_X7_in : GoodIn wsX7_setLoop wsX7_in := goodIn_r _ [6] (by decide +kernel) (by decide +kernel)
set_option maxRecDepth 20000 in
theorem gX7_setLoop_X7_in : GoodIn wsX7_setLoop (va_wsS RX7 35 yX7_in wsX7_in) := goodIn_app (goodIn_of _ (by decide +kernel)) ggX7_setLoop_X7_in
theorem dX7_setLoop_0 : decode cX7_setLoop 0 = .ok (.aload_n 0, 1) := by decide +kernel
theorem dX7_setLoop_1 : decode cX7_setLoop 1 = .ok (.iload_n 1, 1) := by decide +kernel
theorem dX7_setLoop_2 : decode cX7_setLoop 2 = .ok (.iconst 1, 1) := by decide +kernel
theorem dX7_setLoop_3 : decode cX7_setLoop 3 = .ok (.sipush 1000, 3) := by decide +kernel
theorem dX7_setLoop_6 : decode cX7_setLoop 6 = .ok (.invokestatic 35, 3) := by decide +kernel
theorem dX7_setLoop_9 : decode cX7_setLoop 9 = .ok (.ifCond .eq 18, 3) := by decide +kernel
theorem dX7_setLoop_12 : decode cX7_setLoop 12 = .ok (.iload_n 2, 1) := by decide +kernel
theorem dX7_setLoop_13 : decode cX7_setLoop 13 = .ok (.iconst 0, 1) := by decide +kernel
theorem dX7_setLoop_14 : decode cX7_setLoop 14 = .ok (.sipush 500, 3) := by decide +kernel
theorem dX7_setLoop_17 : decode cX7_setLoop 17 = .ok (.invokestatic 35, 3) := by decide +kernel
theorem dX7_setLoop_20 : decode cX7_setLoop 20 = .ok (.ifCond .eq 7, 3) := by decide +kernel
theorem dX7_setLoop_23 : decode cX7_setLoop 23 = .ok (.iconst 0, 1) := by decide +kernel
theorem dX7_setLoop_24 : decode cX7_setLoop 24 = .ok (.goto 4, 3) := by decide +kernel
theorem dX7_setLoop_27 : decode cX7_setLoop 27 = .ok (.iconst 1, 1) := by decide +kernel
theorem dX7_setLoop_28 : decode cX7_setLoop 28 = .ok (.putfield 30, 3) := by decide +kernel
theorem dX7_setLoop_31 : decode cX7_setLoop 31 = .ok (.aload_n 0, 1) := by decide +kernel
theorem dX7_setLoop_32 : decode cX7_setLoop 32 = .ok (.getfield 30, 3) := by decide +kernel
theorem dX7_setLoop_35 : decode cX7_setLoop 35 = .ok (.ifCond .ne 19, 3) := by decide +kernel
theorem dX7_setLoop_38 : decode cX7_setLoop 38 = .ok (.aload_n 0, 1) := by decide +kernel
theorem dX7_setLoop_39 : decode cX7_setLoop 39 = .ok (.getfield 7, 3) := by decide +kernel
theorem dX7_setLoop_42 : decode cX7_setLoop 42 = .ok (.bipush 16, 2) := by decide +kernel
theorem dX7_setLoop_44 : decode cX7_setLoop 44 = .ok (.iload_n 1, 1) := by decide +kernel
theorem dX7_setLoop_45 : decode cX7_setLoop 45 = .ok (.iastore, 1) := by decide +kernel
theorem dX7_setLoop_46 : decode cX7_setLoop 46 = .ok (.aload_n 0, 1) := by decide +kernel
theorem dX7_setLoop_47 : decode cX7_setLoop 47 = .ok (.getfield 7, 3) := by decide +kernel
theorem dX7_setLoop_50 : decode cX7_setLoop 50 = .ok (.bipush 17, 2) := by decide +kernel
theorem dX7_setLoop_52 : decode cX7_setLoop 52 = .ok (.iload_n 2, 1) := by decide +kernel
theorem dX7_setLoop_53 : decode cX7_setLoop 53 = .ok (.iastore, 1) := by decide +kernel
theorem dX7_setLoop_54 : decode cX7_setLoop 54 = .ok (.return_, 1) := by decide +kernel
set_option maxRecDepth 20000 in
theorem ggX7_setLock_X7_in : GoodIn wsX7_setLock wsX7_in := goodIn_r _ [7] (by decide +kernel) (by decide +kernel)
set_option maxRecDepth 20000 in
theorem gX7_setLock_X7_in : GoodIn wsX7_setLock (va_wsS RX7 35 yX7_in wsX7_in) := goodIn_app (goodIn_of _ (by decide +kernel)) ggX7_setLock_X7_in
theorem dX7_setLock_0 : decode cX7_setLock 0 = .ok (.aload_n 0, 1) := by decide +kernel
theorem dX7_setLock_1 : decode cX7_setLock 1 = .ok (.iload_n 1, 1) := by decide +kernel
theorem dX7_setLock_2 : decode cX7_setLock 2 = .ok (.bipush 100, 2) := by decide +kernel
theorem dX7_setLock_4 : decode cX7_setLock 4 = .ok (.ldc 54, 2) := by decide +kernel
theorem dX7_setLock_6 : decode cX7_setLock 6 = .ok (.invokestatic 35, 3) := by decide +kernel
theorem dX7_setLock_9 : decode cX7_setLock 9 = .ok (.ifCond .eq 18, 3) := by decide +kernel
theorem dX7_setLock_12 : decode cX7_setLock 12 = .ok (.iload_n 2, 1) := by decide +kernel
theorem dX7_setLock_13 : decode cX7_setLock 13 = .ok (.iconst 1, 1) := by decide +kernel
theorem dX7_setLock_14 : decode cX7_setLock 14 = .ok (.sipush 500, 3) := by decide +kernel
theorem dX7_setLock_17 : decode cX7_setLock 17 = .ok (.invokestatic 35, 3) := by decide +kernel
theorem dX7_setLock_20 : decode cX7_setLock 20 = .ok (.ifCond .eq 7, 3) := by decide +kernel
theorem dX7_setLock_23 : decode cX7_setLock 23 = .ok (.iconst 0, 1) := by decide +kernel
theorem dX7_setLock_24 : decode cX7_setLock 24 = .ok (.goto 4, 3) := by decide +kernel
theorem dX7_setLock_27 : decode cX7_setLock 27 = .ok (.iconst 1, 1) := by decide +kernel
theorem dX7_setLock_28 : decode cX7_setLock 28 = .ok (.putfield 30, 3) := by decide +kernel
theorem dX7_setLock_31 : decode cX7_setLock 31 = .ok (.aload_n 0, 1) := by decide +kernel
theorem dX7_setLock_32 : decode cX7_setLock 32 = .ok (.getfield 30, 3) := by decide +kernel
theorem dX7_setLock_35 : decode cX7_setLock 35 = .ok (.ifCond .ne 19, 3) := by decide +kernel
theorem dX7_setLock_38 : decode cX7_setLock 38 = .ok (.aload_n 0, 1) := by decide +kernel
theorem dX7_setLock_39 : decode cX7_setLock 39 = .ok (.getfield 7, 3) := by decide +kernel
theorem dX7_setLock_42 : decode cX7_setLock 42 = .ok (.bipush 18, 2) := by decide +kernel
theorem dX7_setLock_44 : decode cX7_setLock 44 = .ok (.iload_n 1, 1) := by decide +kernel
theorem dX7_setLock_45 : decode cX7_setLock 45 = .ok (.iastore, 1) := by decide +kernel
theorem dX7_setLock_46 : decode cX7_setLock 46 = .ok (.aload_n 0, 1) := by decide +kernel
theorem dX7_setLock_47 : decode cX7_setLock 47 = .ok (.getfield 7, 3) := by decide +kernel
theorem dX7_setLock_50 : decode cX7_setLock 50 = .ok (.bipush 19, 2) := by decide +kernel
theorem dX7_setLock_52 : decode cX7_setLock 52 = .ok (.iload_n 2, 1) := by decide +kernel
theorem dX7_setLock_53 : decode cX7_setLock 53 = .ok (.iastore, 1) := by decide +kernel
theorem dX7_setLock_54 : decode cX7_setLock 54 = .ok (.return_, 1) := by decide +kernel
set_option maxRecDepth 20000 in
theorem ggX7_setWindow_X7_in : GoodIn wsX7_setWindow wsX7_in := goodIn_r _ [8] (by decide +kernel) (by decide +kernel)
set_option maxRecDepth 20000 in
theorem gX7_setWindow_X7_in : GoodIn wsX7_setWindow (va_wsS RX7 35 yX7_in wsX7_in) := goodIn_app (goodIn_of _ (by decide +kernel)) ggX7_setWindow_X7_in
theorem dX7_setWindow_0 : decode cX7_setWindow 0 = .ok (.iload_n 1, 1) := by decide +kernel
theorem dX7_setWindow_1 : decode cX7_setWindow 1 = .ok (.iconst 0, 1) := by decide +kernel
theorem dX7_setWindow_2 : decode cX7_setWindow 2 = .ok (.sipush 400, 3) := by decide +kernel
theorem dX7_setWindow_5 : decode cX7_setWindow 5 = .ok (.invokestatic 35, 3) := by decide +kernel
theorem dX7_setWindow_8 : decode cX7_setWindow 8 = .ok (.ifCond .eq 40, 3) := by decide +kernel
theorem dX7_setWindow_11 : decode cX7_setWindow 11 = .ok (.iload_n 2, 1) := by decide +kernel
theorem dX7_setWindow_12 : decode cX7_setWindow 12 = .ok (.iload_n 1, 1) := by decide +kernel
theorem dX7_setWindow_13 : decode cX7_setWindow 13 = .ok (.sipush 400, 3) := by decide +kernel
theorem dX7_setWindow_16 : decode cX7_setWindow 16 = .ok (.invokestatic 35, 3) := by decide +kernel
theorem dX7_setWindow_19 : decode cX7_setWindow 19 = .ok (.ifCond .eq 29, 3) := by decide +kernel
theorem dX7_setWindow_22 : decode cX7_setWindow 22 = .ok (.iload_n 3, 1) := by decide +kernel
theorem dX7_setWindow_23 : decode cX7_setWindow 23 = .ok (.ldc 55, 2) := by decide +kernel
theorem dX7_setWindow_25 : decode cX7_setWindow 25 = .ok (.ldc 56, 2) := by decide +kernel
theorem dX7_setWindow_27 : decode cX7_setWindow 27 = .ok (.invokestatic 35, 3) := by decide +kernel
theorem dX7_setWindow_30 : decode cX7_setWindow 30 = .ok (.ifCond .eq 18, 3) := by decide +kernel
theorem dX7_setWindow_33 : decode cX7_setWindow 33 = .ok (.iload 4, 2) := by decide +kernel
theorem dX7_setWindow_35 : decode cX7_setWindow 35 = .ok (.iload_n 3, 1) := by decide +kernel
theorem dX7_setWindow_36 : decode cX7_setWindow 36 = .ok (.ldc 56, 2) := by decide +kernel
theorem dX7_setWindow_38 : decode cX7_setWindow 38 = .ok (.invokestatic 35, 3) := by decide +kernel
theorem dX7_setWindow_41 : decode cX7_setWindow 41 = .ok (.ifCond .eq 7, 3) := by decide +kernel
theorem dX7_setWindow_44 : decode cX7_setWindow 44 = .ok (.iconst 1, 1) := by decide +kernel
theorem dX7_setWindow_45 : decode cX7_setWindow 45 = .ok (.goto 4, 3) := by decide +kernel
theorem dX7_setWindow_48 : decode cX7_setWindow 48 = .ok (.iconst 0, 1) := by decide +kernel
theorem dX7_setWindow_49 : decode cX7_setWindow 49 = .ok (.istore 5, 2) := by decide +kernel
theorem dX7_setWindow_51 : decode cX7_setWindow 51 = .ok (.aload_n 0, 1) := by decide +kernel
theorem dX7_setWindow_52 : decode cX7_setWindow 52 = .ok (.iload 5, 2) := by decide +kernel
theorem dX7_setWindow_54 : decode cX7_setWindow 54 = .ok (.ifCond .eq 7, 3) := by decide +kernel
theorem dX7_setWindow_57 : decode cX7_setWindow 57 = .ok (.iconst 0, 1) := by decide +kernel
theorem dX7_setWindow_58 : decode cX7_setWindow 58 = .ok (.goto 4, 3) := by decide +kernel
theorem dX7_setWindow_61 : decode cX7_setWindow 61 = .ok (.iconst 1, 1) := by decide +kernel
theorem dX7_setWindow_62 : decode cX7_setWindow 62 = .ok (.putfield 30, 3) := by decide +kernel
theorem dX7_setWindow_65 : decode cX7_setWindow 65 = .ok (.iload 5, 2) := by decide +kernel
theorem dX7_setWindow_67 : decode cX7_setWindow 67 = .ok (.ifCond .eq 36, 3) := by decide +kernel
theorem dX7_setWindow_70 : decode cX7_setWindow 70 = .ok (.aload_n 0, 1) := by decide +kernel
theorem dX7_setWindow_71 : decode cX7_setWindow 71 = .ok (.getfield 7, 3) := by decide +kernel
theorem dX7_setWindow_74 : decode cX7_setWindow 74 = .ok (.bipush 24, 2) := by decide +kernel
theorem dX7_setWindow_76 : decode cX7_setWindow 76 = .ok (.iload_n 1, 1) := by decide +kernel
theorem dX7_setWindow_77 : decode cX7_setWindow 77 = .ok (.iastore, 1) := by decide +kernel
theorem dX7_setWindow_78 : decode cX7_setWindow 78 = .ok (.aload_n 0, 1) := by decide +kernel
theorem dX7_setWindow_79 : decode cX7_setWindow 79 = .ok (.getfield 7, 3) := by decide +kernel
theorem dX7_setWindow_82 : decode cX7_setWindow 82 = .ok (.bipush 25, 2) := by decide +kernel
theorem dX7_setWindow_84 : decode cX7_setWindow 84 = .ok (.iload_n 2, 1) := by decide +kernel
theorem dX7_setWindow_85 : decode cX7_setWindow 85 = .ok (.iastore, 1) := by decide +kernel
theorem dX7_setWindow_86 : decode cX7_setWindow 86 = .ok (.aload_n 0, 1) := by decide +kernel
theorem dX7_setWindow_87 : decode cX7_setWindow 87 = .ok (.getfield 7, 3) := by decide +kernel
theorem dX7_setWindow_90 : decode cX7_setWindow 90 = .ok (.bipush 26, 2) := by decide +kernel
theorem dX7_setWindow_92 : decode cX7_setWindow 92 = .ok (.iload_n 3, 1) := by decide +kernel
theorem dX7_setWindow_93 : decode cX7_setWindow 93 = .ok (.iastore, 1) := by decide +kernel
theorem dX7_setWindow_94 : decode cX7_setWindow 94 = .ok (.aload_n 0, 1) := by decide +kernel
theorem dX7_setWindow_95 : decode cX7_setWindow 95 = .ok (.getfield 7, 3) := by decide +kernel
theorem dX7_setWindow_98 : decode cX7_setWindow 98 = .ok (.bipush 27, 2) := by decide +kernel
theorem dX7_setWindow_100 : decode cX7_setWindow 100 = .ok (.iload 4, 2) := by decide +kernel
theorem dX7_setWindow_102 : decode cX7_setWindow 102 = .ok (.iastore, 1) := by decide +kernel
theorem dX7_setWindow_103 : decode cX7_setWindow 103 = .ok (.return_, 1) := by decide +kernel
set_option maxRecDepth 20000 in
theorem ggX7_setPower_X7_in : GoodIn wsX7_setPower wsX7_in := goodIn_r _ [6] (by decide +kernel) (by decide +kernel)
set_option maxRecDepth 20000 in
theorem gX7_setPower_X7_in : GoodIn wsX7_setPower (va_wsS RX7 35 yX7_in wsX7_in) := goodIn_app (goodIn_of _ (by decide +kernel)) ggX7_setPower_X7_in
theorem dX7_setPower_0 : decode cX7_setPower 0 = .ok (.aload_n 0, 1) := by decide +kernel
theorem dX7_setPower_1 : decode cX7_setPower 1 = .ok (.iload_n 1, 1) := by decide +kernel
theorem dX7_setPower_2 : decode cX7_setPower 2 = .ok (.iconst 1, 1) := by decide +kernel
theorem dX7_setPower_3 : decode cX7_setPower 3 = .ok (.sipush 10000, 3) := by decide +kernel
theorem dX7_setPower_6 : decode cX7_setPower 6 = .ok (.invokestatic 35, 3) := by decide +kernel
theorem dX7_setPower_9 : decode cX7_setPower 9 = .ok (.ifCond .eq 29, 3) := by decide +kernel
theorem dX7_setPower_12 : decode cX7_setPower 12 = .ok (.iload_n 2, 1) := by decide +kernel
theorem dX7_setPower_13 : decode cX7_setPower 13 = .ok (.iconst 1, 1) := by decide +kernel
theorem dX7_setPower_14 : decode cX7_setPower 14 = .ok (.sipush 5000, 3) := by decide +kernel
theorem dX7_setPower_17 : decode cX7_setPower 17 = .ok (.invokestatic 35, 3) := by decide +kernel
theorem dX7_setPower_20 : decode cX7_setPower 20 = .ok (.ifCond .eq 18, 3) := by decide +kernel
theorem dX7_setPower_23 : decode cX7_setPower 23 = .ok (.iload_n 3, 1) := by decide +kernel
theorem dX7_setPower_24 : decode cX7_setPower 24 = .ok (.iconst 1, 1) := by decide +kernel
theorem dX7_setPower_25 : decode cX7_setPower 25 = .ok (.sipush 5000, 3) := by decide +kernel
theorem dX7_setPower_28 : decode cX7_setPower 28 = .ok (.invokestatic 35, 3) := by decide +kernel
theorem dX7_setPower_31 : decode cX7_setPower 31 = .ok (.ifCond .eq 7, 3) := by decide +kernel
theorem dX7_setPower_34 : decode cX7_setPower 34 = .ok (.iconst 0, 1) := by decide +kernel
theorem dX7_setPower_35 : decode cX7_setPower 35 = .ok (.goto 4, 3) := by decide +kernel
theorem dX7_setPower_38 : decode cX7_setPower 38 = .ok (.iconst 1, 1) := by decide +kernel
theorem dX7_setPower_39 : decode cX7_setPower 39 = .ok (.putfield 30, 3) := by decide +kernel
theorem dX7_setPower_42 : decode cX7_setPower 42 = .ok (.aload_n 0, 1) := by decide +kernel
theorem dX7_setPower_43 : decode cX7_setPower 43 = .ok (.getfield 30, 3) := by decide +kernel
theorem dX7_setPower_46 : decode cX7_setPower 46 = .ok (.ifCond .ne 27, 3) := by decide +kernel
theorem dX7_setPower_49 : decode cX7_setPower 49 = .ok (.aload_n 0, 1) := by decide +kernel
theorem dX7_setPower_50 : decode cX7_setPower 50 = .ok (.getfield 7, 3) := by decide +kernel
theorem dX7_setPower_53 : decode cX7_setPower 53 = .ok (.bipush 22, 2) := by decide +kernel
theorem dX7_setPower_55 : decode cX7_setPower 55 = .ok (.iload_n 1, 1) := by decide +kernel
theorem dX7_setPower_56 : decode cX7_setPower 56 = .ok (.iastore, 1) := by decide +kernel
theorem dX7_setPower_57 : decode cX7_setPower 57 = .ok (.aload_n 0, 1) := by decide +kernel
theorem dX7_setPower_58 : decode cX7_setPower 58 = .ok (.getfield 7, 3) := by decide +kernel
theorem dX7_setPower_61 : decode cX7_setPower 61 = .ok (.bipush 23, 2) := by decide +kernel
theorem dX7_setPower_63 : decode cX7_setPower 63 = .ok (.iload_n 2, 1) := by decide +kernel
theorem dX7_setPower_64 : decode cX7_setPower 64 = .ok (.iastore, 1) := by decide +kernel
theorem dX7_setPower_65 : decode cX7_setPower 65 = .ok (.aload_n 0, 1) := by decide +kernel
theorem dX7_setPower_66 : decode cX7_setPower 66 = .ok (.getfield 7, 3) := by decide +kernel
theorem dX7_setPower_69 : decode cX7_setPower 69 = .ok (.bipush 21, 2) := by decide +kernel
theorem dX7_setPower_71 : decode cX7_setPower 71 = .ok (.iload_n 3, 1) := by decide +kernel
theorem dX7_setPower_72 : decode cX7_setPower 72 = .ok (.iastore, 1) := by decide +kernel
theorem dX7_setPower_73 : decode cX7_setPower 73 = .ok (.return_, 1) := by decide +kernel
set_option maxRecDepth 20000 in
theorem ggX7_setDrift_X7_in : GoodIn wsX7_setDrift wsX7_in := goodIn_r _ [6] (by decide +kernel) (by decide +kernel)
set_option maxRecDepth 20000 in
theorem gX7_setDrift_X7_in : GoodIn wsX7_setDrift (va_wsS RX7 35 yX7_in wsX7_in) := goodIn_app (goodIn_of _ (by decide +kernel)) ggX7_setDrift_X7_in
theorem dX7_setDrift_0 : decode cX7_setDrift 0 = .ok (.aload_n 0, 1) := by decide +kernel
theorem dX7_setDrift_1 : decode cX7_setDrift 1 = .ok (.iload_n 1, 1) := by decide +kernel
theorem dX7_setDrift_2 : decode cX7_setDrift 2 = .ok (.sipush (-500), 3) := by decide +kernel
theorem dX7_setDrift_5 : decode cX7_setDrift 5 = .ok (.sipush 500, 3) := by decide +kernel
theorem dX7_setDrift_8 : decode cX7_setDrift 8 = .ok (.invokestatic 35, 3) := by decide +kernel
theorem dX7_setDrift_11 : decode cX7_setDrift 11 = .ok (.ifCond .eq 17, 3) := by decide +kernel
theorem dX7_setDrift_14 : decode cX7_setDrift 14 = .ok (.iload_n 2, 1) := by decide +kernel
theorem dX7_setDrift_15 : decode cX7_setDrift 15 = .ok (.iconst 0, 1) := by decide +kernel
theorem dX7_setDrift_16 : decode cX7_setDrift 16 = .ok (.bipush 100, 2) := by decide +kernel
theorem dX7_setDrift_18 : decode cX7_setDrift 18 = .ok (.invokestatic 35, 3) := by decide +kernel
theorem dX7_setDrift_21 : decode cX7_setDrift 21 = .ok (.ifCond .eq 7, 3) := by decide +kernel
theorem dX7_setDrift_24 : decode cX7_setDrift 24 = .ok (.iconst 0, 1) := by decide +kernel
theorem dX7_setDrift_25 : decode cX7_setDrift 25 = .ok (.goto 4, 3) := by decide +kernel
theorem dX7_setDrift_28 : decode cX7_setDrift 28 = .ok (.iconst 1, 1) := by decide +kernel
theorem dX7_setDrift_29 : decode cX7_setDrift 29 = .ok (.putfield 30, 3) := by decide +kernel
theorem dX7_setDrift_32 : decode cX7_setDrift 32 = .ok (.aload_n 0, 1) := by decide +kernel
theorem dX7_setDrift_33 : decode cX7_setDrift 33 = .ok (.getfield 30, 3) := by decide +kernel
theorem dX7_setDrift_36 : decode cX7_setDrift 36 = .ok (.ifCond .ne 19, 3) := by decide +kernel
theorem dX7_setDrift_39 : decode cX7_setDrift 39 = .ok (.aload_n 0, 1) := by decide +kernel
theorem dX7_setDrift_40 : decode cX7_setDrift 40 = .ok (.getfield 7, 3) := by decide +kernel
theorem dX7_setDrift_43 : decode cX7_setDrift 43 = .ok (.bipush 28, 2) := by decide +kernel
theorem dX7_setDrift_45 : decode cX7_setDrift 45 = .ok (.iload_n 1, 1) := by decide +kernel
theorem dX7_setDrift_46 : decode cX7_setDrift 46 = .ok (.iastore, 1) := by decide +kernel
theorem dX7_setDrift_47 : decode cX7_setDrift 47 = .ok (.aload_n 0, 1) := by decide +kernel
theorem dX7_setDrift_48 : decode cX7_setDrift 48 = .ok (.getfield 7, 3) := by decide +kernel
theorem dX7_setDrift_51 : decode cX7_setDrift 51 = .ok (.bipush 29, 2) := by decide +kernel
theorem dX7_setDrift_53 : decode cX7_setDrift 53 = .ok (.iload_n 2, 1) := by decide +kernel
theorem dX7_setDrift_54 : decode cX7_setDrift 54 = .ok (.iastore, 1) := by decide +kernel
theorem dX7_setDrift_55 : decode cX7_setDrift 55 = .ok (.return_, 1) := by decide +kernel
set_option maxRecDepth 20000 in
theorem ggX7_addRule_X7_in : GoodIn wsX7_addRule wsX7_in := goodIn_r _ [7] (by decide +kernel) (by decide +kernel)
set_option maxRecDepth 20000 in
theorem gX7_addRule_X7_in : GoodIn wsX7_addRule (va_wsS RX7 35 yX7_in wsX7_in) := goodIn_app (goodIn_of _ (by decide +kernel)) ggX7_addRule_X7_in
theorem dX7_addRule_0 : decode cX7_addRule 0 = .ok (.aload_n 0, 1) := by decide +kernel
theorem dX7_addRule_1 : decode cX7_addRule 1 = .ok (.iload_n 1, 1) := by decide +kernel
theorem dX7_addRule_2 : decode cX7_addRule 2 = .ok (.iconst 0, 1) := by decide +kernel
theorem dX7_addRule_3 : decode cX7_addRule 3 = .ok (.iconst 4, 1) := by decide +kernel
theorem dX7_addRule_4 : decode cX7_addRule 4 = .ok (.invokestatic 35, 3) := by decide +kernel
theorem dX7_addRule_7 : decode cX7_addRule 7 = .ok (.ifCond .eq 24, 3) := by decide +kernel
theorem dX7_addRule_10 : decode cX7_addRule 10 = .ok (.iload_n 2, 1) := by decide +kernel
theorem dX7_addRule_11 : decode cX7_addRule 11 = .ok (.iconst 0, 1) := by decide +kernel
theorem dX7_addRule_12 : decode cX7_addRule 12 = .ok (.ldc 56, 2) := by decide +kernel
theorem dX7_addRule_14 : decode cX7_addRule 14 = .ok (.invokestatic 35, 3) := by decide +kernel
theorem dX7_addRule_17 : decode cX7_addRule 17 = .ok (.ifCond .eq 14, 3) := by decide +kernel
theorem dX7_addRule_20 : decode cX7_addRule 20 = .ok (.iload_n 3, 1) := by decide +kernel
theorem dX7_addRule_21 : decode cX7_addRule 21 = .ok (.iconst 1, 1) := by decide +kernel
theorem dX7_addRule_22 : decode cX7_addRule 22 = .ok (.sipush 10000, 3) := by decide +kernel
theorem dX7_addRule_25 : decode cX7_addRule 25 = .ok (.invokestatic 35, 3) := by decide +kernel
theorem dX7_addRule_28 : decode cX7_addRule 28 = .ok (.ifCond .ne 7, 3) := by decide +kernel
theorem dX7_addRule_31 : decode cX7_addRule 31 = .ok (.iconst 1, 1) := by decide +kernel
theorem dX7_addRule_32 : decode cX7_addRule 32 = .ok (.goto 20, 3) := by decide +kernel
theorem dX7_addRule_35 : decode cX7_addRule 35 = .ok (.aload_n 0, 1) := by decide +kernel
theorem dX7_addRule_36 : decode cX7_addRule 36 = .ok (.getfield 7, 3) := by decide +kernel
theorem dX7_addRule_39 : decode cX7_addRule 39 = .ok (.bipush 30, 2) := by decide +kernel
theorem dX7_addRule_41 : decode cX7_addRule 41 = .ok (.iaload, 1) := by decide +kernel
theorem dX7_addRule_42 : decode cX7_addRule 42 = .ok (.bipush 8, 2) := by decide +kernel
theorem dX7_addRule_44 : decode cX7_addRule 44 = .ok (.if_icmp .ne 7, 3) := by decide +kernel
theorem dX7_addRule_47 : decode cX7_addRule 47 = .ok (.iconst 2, 1) := by decide +kernel
theorem dX7_addRule_48 : decode cX7_addRule 48 = .ok (.goto 4, 3) := by decide +kernel
theorem dX7_addRule_51 : decode cX7_addRule 51 = .ok (.iconst 0, 1) := by decide +kernel
theorem dX7_addRule_52 : decode cX7_addRule 52 = .ok (.putfield 30, 3) := by decide +kernel
theorem dX7_addRule_55 : decode cX7_addRule 55 = .ok (.aload_n 0, 1) := by decide +kernel
theorem dX7_addRule_56 : decode cX7_addRule 56 = .ok (.getfield 30, 3) := by decide +kernel
theorem dX7_addRule_59 : decode cX7_addRule 59 = .ok (.ifCond .eq 5, 3) := by decide +kernel
theorem dX7_addRule_62 : decode cX7_addRule 62 = .ok (.iconst 0, 1) := by decide +kernel
theorem dX7_addRule_63 : decode cX7_addRule 63 = .ok (.ireturn, 1) := by decide +kernel
theorem dX7_addRule_64 : decode cX7_addRule 64 = .ok (.aload_n 0, 1) := by decide +kernel
theorem dX7_addRule_65 : decode cX7_addRule 65 = .ok (.getfield 7, 3) := by decide +kernel
theorem dX7_addRule_68 : decode cX7_addRule 68 = .ok (.bipush 30, 2) := by decide +kernel
theorem dX7_addRule_70 : decode cX7_addRule 70 = .ok (.iaload, 1) := by decide +kernel
theorem dX7_addRule_71 : decode cX7_addRule 71 = .ok (.istore 4, 2) := by decide +kernel
theorem dX7_addRule_73 : decode cX7_addRule 73 = .ok (.aload_n 0, 1) := by decide +kernel
theorem dX7_addRule_74 : decode cX7_addRule 74 = .ok (.getfield 7, 3) := by decide +kernel
theorem dX7_addRule_77 : decode cX7_addRule 77 = .ok (.bipush 53, 2) := by decide +kernel
theorem dX7_addRule_79 : decode cX7_addRule 79 = .ok (.iload 4, 2) := by decide +kernel
theorem dX7_addRule_81 : decode cX7_addRule 81 = .ok (.iadd, 1) := by decide +kernel
theorem dX7_addRule_82 : decode cX7_addRule 82 = .ok (.iload_n 1, 1) := by decide +kernel
theorem dX7_addRule_83 : decode cX7_addRule 83 = .ok (.iastore, 1) := by decide +kernel
theorem dX7_addRule_84 : decode cX7_addRule 84 = .ok (.aload_n 0, 1) := by decide +kernel
theorem dX7_addRule_85 : decode cX7_addRule 85 = .ok (.getfield 7, 3) := by decide +kernel
theorem dX7_addRule_88 : decode cX7_addRule 88 = .ok (.bipush 61, 2) := by decide +kernel
theorem dX7_addRule_90 : decode cX7_addRule 90 = .ok (.iload 4, 2) := by decide +kernel
theorem dX7_addRule_92 : decode cX7_addRule 92 = .ok (.iadd, 1) := by decide +kernel
theorem dX7_addRule_93 : decode cX7_addRule 93 = .ok (.iload_n 2, 1) := by decide +kernel
theorem dX7_addRule_94 : decode cX7_addRule 94 = .ok (.iastore, 1) := by decide +kernel
theorem dX7_addRule_95 : decode cX7_addRule 95 = .ok (.aload_n 0, 1) := by decide +kernel
theorem dX7_addRule_96 : decode cX7_addRule 96 = .ok (.getfield 7, 3) := by decide +kernel
theorem dX7_addRule_99 : decode cX7_addRule 99 = .ok (.bipush 69, 2) := by decide +kernel
theorem dX7_addRule_101 : decode cX7_addRule 101 = .ok (.iload 4, 2) := by decide +kernel
theorem dX7_addRule_103 : decode cX7_addRule 103 = .ok (.iadd, 1) := by decide +kernel
theorem dX7_addRule_104 : decode cX7_addRule 104 = .ok (.iload_n 3, 1) := by decide +kernel
theorem dX7_addRule_105 : decode cX7_addRule 105 = .ok (.iastore, 1) := by decide +kernel
theorem dX7_addRule_106 : decode cX7_addRule 106 = .ok (.aload_n 0, 1) := by decide +kernel
theorem dX7_addRule_107 : decode cX7_addRule 107 = .ok (.getfield 7, 3) := by decide +kernel
theorem dX7_addRule_110 : decode cX7_addRule 110 = .ok (.bipush 77, 2) := by decide +kernel
theorem dX7_addRule_112 : decode cX7_addRule 112 = .ok (.iload 4, 2) := by decide +kernel
theorem dX7_addRule_114 : decode cX7_addRule 114 = .ok (.iadd, 1) := by decide +kernel
theorem dX7_addRule_115 : decode cX7_addRule 115 = .ok (.iconst 0, 1) := by decide +kernel
theorem dX7_addRule_116 : decode cX7_addRule 116 = .ok (.iastore, 1) := by decide +kernel
theorem dX7_addRule_117 : decode cX7_addRule 117 = .ok (.aload_n 0, 1) := by decide +kernel
theorem dX7_addRule_118 : decode cX7_addRule 118 = .ok (.getfield 7, 3) := by decide +kernel
theorem dX7_addRule_121 : decode cX7_addRule 121 = .ok (.bipush 30, 2) := by decide +kernel
theorem dX7_addRule_123 : decode cX7_addRule 123 = .ok (.dup2, 1) := by decide +kernel
theorem dX7_addRule_124 : decode cX7_addRule 124 = .ok (.iaload, 1) := by decide +kernel
theorem dX7_addRule_125 : decode cX7_addRule 125 = .ok (.iconst 1, 1) := by decide +kernel
theorem dX7_addRule_126 : decode cX7_addRule 126 = .ok (.iadd, 1) := by decide +kernel
theorem dX7_addRule_127 : decode cX7_addRule 127 = .ok (.iastore, 1) := by decide +kernel
theorem dX7_addRule_128 : decode cX7_addRule 128 = .ok (.iload 4, 2) := by decide +kernel
theorem dX7_addRule_130 : decode cX7_addRule 130 = .ok (.ireturn, 1) := by decide +kernel
theorem dX7_clearRules_0 : decode cX7_clearRules 0 = .ok (.aload_n 0, 1) := by decide +kernel
theorem dX7_clearRules_1 : decode cX7_clearRules 1 = .ok (.iconst 0, 1) := by decide +kernel
theorem dX7_clearRules_2 : decode cX7_clearRules 2 = .ok (.putfield 30, 3) := by decide +kernel
theorem dX7_clearRules_5 : decode cX7_clearRules 5 = .ok (.aload_n 0, 1) := by decide +kernel
theorem dX7_clearRules_6 : decode cX7_clearRules 6 = .ok (.getfield 7, 3) := by decide +kernel
theorem dX7_clearRules_9 : decode cX7_clearRules 9 = .ok (.bipush 30, 2) := by decide +kernel
theorem dX7_clearRules_11 : decode cX7_clearRules 11 = .ok (.iaload, 1) := by decide +kernel
theorem dX7_clearRules_12 : decode cX7_clearRules 12 = .ok (.istore_n 1, 1) := by decide +kernel
theorem dX7_clearRules_13 : decode cX7_clearRules 13 = .ok (.aload_n 0, 1) := by decide +kernel
theorem dX7_clearRules_14 : decode cX7_clearRules 14 = .ok (.getfield 7, 3) := by decide +kernel
theorem dX7_clearRules_17 : decode cX7_clearRules 17 = .ok (.bipush 30, 2) := by decide +kernel
theorem dX7_clearRules_19 : decode cX7_clearRules 19 = .ok (.iconst 0, 1) := by decide +kernel
theorem dX7_clearRules_20 : decode cX7_clearRules 20 = .ok (.iastore, 1) := by decide +kernel
theorem dX7_clearRules_21 : decode cX7_clearRules 21 = .ok (.iload_n 1, 1) := by decide +kernel
theorem dX7_clearRules_22 : decode cX7_clearRules 22 = .ok (.ireturn, 1) := by decide +kernel
theorem dX7_note_0 : decode cX7_note 0 = .ok (.aload_n 0, 1) := by decide +kernel
theorem dX7_note_1 : decode cX7_note 1 = .ok (.getfield 7, 3) := by decide +kernel
theorem dX7_note_4 : decode cX7_note 4 = .ok (.bipush 85, 2) := by decide +kernel
theorem dX7_note_6 : decode cX7_note 6 = .ok (.aload_n 0, 1) := by decide +kernel
theorem dX7_note_7 : decode cX7_note 7 = .ok (.getfield 7, 3) := by decide +kernel
theorem dX7_note_10 : decode cX7_note 10 = .ok (.bipush 32, 2) := by decide +kernel
theorem dX7_note_12 : decode cX7_note 12 = .ok (.iaload, 1) := by decide +kernel
theorem dX7_note_13 : decode cX7_note 13 = .ok (.bipush 40, 2) := by decide +kernel
theorem dX7_note_15 : decode cX7_note 15 = .ok (.irem, 1) := by decide +kernel
theorem dX7_note_16 : decode cX7_note 16 = .ok (.iadd, 1) := by decide +kernel
theorem dX7_note_17 : decode cX7_note 17 = .ok (.aload_n 0, 1) := by decide +kernel
theorem dX7_note_18 : decode cX7_note 18 = .ok (.getfield 7, 3) := by decide +kernel
theorem dX7_note_21 : decode cX7_note 21 = .ok (.iconst 0, 1) := by decide +kernel
theorem dX7_note_22 : decode cX7_note 22 = .ok (.iaload, 1) := by decide +kernel
theorem dX7_note_23 : decode cX7_note 23 = .ok (.iastore, 1) := by decide +kernel
theorem dX7_note_24 : decode cX7_note 24 = .ok (.aload_n 0, 1) := by decide +kernel
theorem dX7_note_25 : decode cX7_note 25 = .ok (.getfield 7, 3) := by decide +kernel
theorem dX7_note_28 : decode cX7_note 28 = .ok (.bipush 125, 2) := by decide +kernel
theorem dX7_note_30 : decode cX7_note 30 = .ok (.aload_n 0, 1) := by decide +kernel
theorem dX7_note_31 : decode cX7_note 31 = .ok (.getfield 7, 3) := by decide +kernel
theorem dX7_note_34 : decode cX7_note 34 = .ok (.bipush 32, 2) := by decide +kernel
theorem dX7_note_36 : decode cX7_note 36 = .ok (.iaload, 1) := by decide +kernel
theorem dX7_note_37 : decode cX7_note 37 = .ok (.bipush 40, 2) := by decide +kernel
theorem dX7_note_39 : decode cX7_note 39 = .ok (.irem, 1) := by decide +kernel
theorem dX7_note_40 : decode cX7_note 40 = .ok (.iadd, 1) := by decide +kernel
theorem dX7_note_41 : decode cX7_note 41 = .ok (.iload_n 1, 1) := by decide +kernel
theorem dX7_note_42 : decode cX7_note 42 = .ok (.iastore, 1) := by decide +kernel
theorem dX7_note_43 : decode cX7_note 43 = .ok (.aload_n 0, 1) := by decide +kernel
theorem dX7_note_44 : decode cX7_note 44 = .ok (.getfield 7, 3) := by decide +kernel
theorem dX7_note_47 : decode cX7_note 47 = .ok (.bipush 32, 2) := by decide +kernel
theorem dX7_note_49 : decode cX7_note 49 = .ok (.dup2, 1) := by decide +kernel
theorem dX7_note_50 : decode cX7_note 50 = .ok (.iaload, 1) := by decide +kernel
theorem dX7_note_51 : decode cX7_note 51 = .ok (.iconst 1, 1) := by decide +kernel
theorem dX7_note_52 : decode cX7_note 52 = .ok (.iadd, 1) := by decide +kernel
theorem dX7_note_53 : decode cX7_note 53 = .ok (.iastore, 1) := by decide +kernel
theorem dX7_note_54 : decode cX7_note 54 = .ok (.return_, 1) := by decide +kernel
theorem dX7_start_0 : decode cX7_start 0 = .ok (.aload_n 0, 1) := by decide +kernel
theorem dX7_start_1 : decode cX7_start 1 = .ok (.iconst 0, 1) := by decide +kernel
theorem dX7_start_2 : decode cX7_start 2 = .ok (.putfield 30, 3) := by decide +kernel
theorem dX7_start_5 : decode cX7_start 5 = .ok (.aload_n 0, 1) := by decide +kernel
theorem dX7_start_6 : decode cX7_start 6 = .ok (.getfield 7, 3) := by decide +kernel
theorem dX7_start_9 : decode cX7_start 9 = .ok (.bipush 20, 2) := by decide +kernel
theorem dX7_start_11 : decode cX7_start 11 = .ok (.iaload, 1) := by decide +kernel
theorem dX7_start_12 : decode cX7_start 12 = .ok (.iconst 2, 1) := by decide +kernel
theorem dX7_start_13 : decode cX7_start 13 = .ok (.if_icmp .ne 7, 3) := by decide +kernel
theorem dX7_start_16 : decode cX7_start 16 = .ok (.iconst 1, 1) := by decide +kernel
theorem dX7_start_17 : decode cX7_start 17 = .ok (.goto 4, 3) := by decide +kernel
theorem dX7_start_20 : decode cX7_start 20 = .ok (.iconst 0, 1) := by decide +kernel
theorem dX7_start_21 : decode cX7_start 21 = .ok (.istore_n 1, 1) := by decide +kernel
theorem dX7_start_22 : decode cX7_start 22 = .ok (.iload_n 1, 1) := by decide +kernel
theorem dX7_start_23 : decode cX7_start 23 = .ok (.ifCond .eq 19, 3) := by decide +kernel
theorem dX7_start_26 : decode cX7_start 26 = .ok (.aload_n 0, 1) := by decide +kernel
theorem dX7_start_27 : decode cX7_start 27 = .ok (.getfield 7, 3) := by decide +kernel
theorem dX7_start_30 : decode cX7_start 30 = .ok (.bipush 20, 2) := by decide +kernel
theorem dX7_start_32 : decode cX7_start 32 = .ok (.iconst 0, 1) := by decide +kernel
theorem dX7_start_33 : decode cX7_start 33 = .ok (.iastore, 1) := by decide +kernel
theorem dX7_start_34 : decode cX7_start 34 = .ok (.aload_n 0, 1) := by decide +kernel
theorem dX7_start_35 : decode cX7_start 35 = .ok (.getfield 7, 3) := by decide +kernel
theorem dX7_start_38 : decode cX7_start 38 = .ok (.bipush 8, 2) := by decide +kernel
theorem dX7_start_40 : decode cX7_start 40 = .ok (.iconst 0, 1) := by decide +kernel
theorem dX7_start_41 : decode cX7_start 41 = .ok (.iastore, 1) := by decide +kernel
theorem dX7_start_42 : decode cX7_start 42 = .ok (.iload_n 1, 1) := by decide +kernel
theorem dX7_start_43 : decode cX7_start 43 = .ok (.ireturn, 1) := by decide +kernel
set_option maxRecDepth 20000 in
theorem ggX7_stop_X7_note : GoodIn wsX7_stop wsX7_note := goodIn_r _ [7, 2, 8, 9, 10, 11, 12, 13, 14] (by decide +kernel) (by decide +kernel)
set_option maxRecDepth 20000 in
theorem gX7_stop_X7_note : GoodIn wsX7_stop (wsV RX7 57 RX7 yX7_note wsX7_note) := goodIn_app (goodIn_of _ (by decide +kernel)) ggX7_stop_X7_note
theorem dX7_stop_0 : decode cX7_stop 0 = .ok (.aload_n 0, 1) := by decide +kernel
theorem dX7_stop_1 : decode cX7_stop 1 = .ok (.iconst 0, 1) := by decide +kernel
theorem dX7_stop_2 : decode cX7_stop 2 = .ok (.putfield 30, 3) := by decide +kernel
theorem dX7_stop_5 : decode cX7_stop 5 = .ok (.aload_n 0, 1) := by decide +kernel
theorem dX7_stop_6 : decode cX7_stop 6 = .ok (.getfield 7, 3) := by decide +kernel
theorem dX7_stop_9 : decode cX7_stop 9 = .ok (.bipush 20, 2) := by decide +kernel
end
section
theorem dX7_stop_11 : decode cX7_stop 11 = .ok (.iaload, 1) := by decide +kernel
theorem dX7_stop_12 : decode cX7_stop 12 = .ok (.iconst 1, 1) := by decide +kernel
theorem dX7_stop_13 : decode cX7_stop 13 = .ok (.if_icmp .ne 7, 3) := by decide +kernel
theorem dX7_stop_16 : decode cX7_stop 16 = .ok (.iconst 1, 1) := by decide +kernel
theorem dX7_stop_17 : decode cX7_stop 17 = .ok (.goto 4, 3) := by decide +kernel
theorem dX7_stop_20 : decode cX7_stop 20 = .ok (.iconst 0, 1) := by decide +kernel
theorem dX7_stop_21 : decode cX7_stop 21 = .ok (.istore_n 1, 1) := by decide +kernel
theorem dX7_stop_22 : decode cX7_stop 22 = .ok (.iload_n 1, 1) := by decide +kernel
theorem dX7_stop_23 : decode cX7_stop 23 = .ok (.ifCond .eq 9, 3) := by decide +kernel
theorem dX7_stop_26 : decode cX7_stop 26 = .ok (.aload_n 0, 1) := by decide +kernel
theorem dX7_stop_27 : decode cX7_stop 27 = .ok (.bipush 102, 2) := by decide +kernel
theorem dX7_stop_29 : decode cX7_stop 29 = .ok (.invokevirtual 57, 3) := by decide +kernel
theorem dX7_stop_32 : decode cX7_stop 32 = .ok (.aload_n 0, 1) := by decide +kernel
theorem dX7_stop_33 : decode cX7_stop 33 = .ok (.getfield 7, 3) := by decide +kernel
theorem dX7_stop_36 : decode cX7_stop 36 = .ok (.bipush 20, 2) := by decide +kernel
theorem dX7_stop_38 : decode cX7_stop 38 = .ok (.iconst 2, 1) := by decide +kernel
theorem dX7_stop_39 : decode cX7_stop 39 = .ok (.iastore, 1) := by decide +kernel
theorem dX7_stop_40 : decode cX7_stop 40 = .ok (.aload_n 0, 1) := by decide +kernel
theorem dX7_stop_41 : decode cX7_stop 41 = .ok (.getfield 7, 3) := by decide +kernel
theorem dX7_stop_44 : decode cX7_stop 44 = .ok (.bipush 9, 2) := by decide +kernel
theorem dX7_stop_46 : decode cX7_stop 46 = .ok (.iconst 0, 1) := by decide +kernel
theorem dX7_stop_47 : decode cX7_stop 47 = .ok (.iastore, 1) := by decide +kernel
theorem dX7_stop_48 : decode cX7_stop 48 = .ok (.iload_n 1, 1) := by decide +kernel
theorem dX7_stop_49 : decode cX7_stop 49 = .ok (.ireturn, 1) := by decide +kernel
set_option maxRecDepth 20000 in
theorem ggX7_feedLine_X7_limited : GoodIn wsX7_feedLine wsX7_limited := goodIn_r _ [8] (by decide +kernel) (by decide +kernel)
set_option maxRecDepth 20000 in
theorem gX7_feedLine_X7_limited : GoodIn wsX7_feedLine (va_wsS RX7 61 yX7_limited wsX7_limited) := goodIn_app (goodIn_of _ (by decide +kernel)) ggX7_feedLine_X7_limited
set_option maxRecDepth 20000 in
theorem ggX7_feedLine_X7_round : GoodIn wsX7_feedLine wsX7_round := goodIn_r _ [11, 12] (by decide +kernel) (by decide +kernel)
set_option maxRecDepth 20000 in
theorem gX7_feedLine_X7_round : GoodIn wsX7_feedLine (va_wsS RX7 43 yX7_round wsX7_round) := goodIn_app (goodIn_of _ (by decide +kernel)) ggX7_feedLine_X7_round
theorem dX7_feedLine_0 : decode cX7_feedLine 0 = .ok (.aload_n 0, 1) := by decide +kernel
theorem dX7_feedLine_1 : decode cX7_feedLine 1 = .ok (.getfield 7, 3) := by decide +kernel
theorem dX7_feedLine_4 : decode cX7_feedLine 4 = .ok (.bipush 10, 2) := by decide +kernel
theorem dX7_feedLine_6 : decode cX7_feedLine 6 = .ok (.iaload, 1) := by decide +kernel
theorem dX7_feedLine_7 : decode cX7_feedLine 7 = .ok (.iconst 1, 1) := by decide +kernel
theorem dX7_feedLine_8 : decode cX7_feedLine 8 = .ok (.if_icmp .ne 32, 3) := by decide +kernel
theorem dX7_feedLine_11 : decode cX7_feedLine 11 = .ok (.aload_n 0, 1) := by decide +kernel
theorem dX7_feedLine_12 : decode cX7_feedLine 12 = .ok (.getfield 7, 3) := by decide +kernel
theorem dX7_feedLine_15 : decode cX7_feedLine 15 = .ok (.iconst 1, 1) := by decide +kernel
theorem dX7_feedLine_16 : decode cX7_feedLine 16 = .ok (.aload_n 0, 1) := by decide +kernel
theorem dX7_feedLine_17 : decode cX7_feedLine 17 = .ok (.getfield 7, 3) := by decide +kernel
theorem dX7_feedLine_20 : decode cX7_feedLine 20 = .ok (.bipush 11, 2) := by decide +kernel
theorem dX7_feedLine_22 : decode cX7_feedLine 22 = .ok (.iaload, 1) := by decide +kernel
theorem dX7_feedLine_23 : decode cX7_feedLine 23 = .ok (.iastore, 1) := by decide +kernel
theorem dX7_feedLine_24 : decode cX7_feedLine 24 = .ok (.aload_n 0, 1) := by decide +kernel
theorem dX7_feedLine_25 : decode cX7_feedLine 25 = .ok (.getfield 7, 3) := by decide +kernel
theorem dX7_feedLine_28 : decode cX7_feedLine 28 = .ok (.iconst 2, 1) := by decide +kernel
theorem dX7_feedLine_29 : decode cX7_feedLine 29 = .ok (.aload_n 0, 1) := by decide +kernel
theorem dX7_feedLine_30 : decode cX7_feedLine 30 = .ok (.getfield 7, 3) := by decide +kernel
theorem dX7_feedLine_33 : decode cX7_feedLine 33 = .ok (.bipush 12, 2) := by decide +kernel
theorem dX7_feedLine_35 : decode cX7_feedLine 35 = .ok (.iaload, 1) := by decide +kernel
theorem dX7_feedLine_36 : decode cX7_feedLine 36 = .ok (.iastore, 1) := by decide +kernel
theorem dX7_feedLine_37 : decode cX7_feedLine 37 = .ok (.goto 136, 3) := by decide +kernel
theorem dX7_feedLine_40 : decode cX7_feedLine 40 = .ok (.aload_n 0, 1) := by decide +kernel
theorem dX7_feedLine_41 : decode cX7_feedLine 41 = .ok (.getfield 7, 3) := by decide +kernel
theorem dX7_feedLine_44 : decode cX7_feedLine 44 = .ok (.bipush 9, 2) := by decide +kernel
theorem dX7_feedLine_46 : decode cX7_feedLine 46 = .ok (.iaload, 1) := by decide +kernel
theorem dX7_feedLine_47 : decode cX7_feedLine 47 = .ok (.ifCond .ne 13, 3) := by decide +kernel
theorem dX7_feedLine_50 : decode cX7_feedLine 50 = .ok (.aload_n 0, 1) := by decide +kernel
theorem dX7_feedLine_51 : decode cX7_feedLine 51 = .ok (.getfield 7, 3) := by decide +kernel
theorem dX7_feedLine_54 : decode cX7_feedLine 54 = .ok (.iconst 1, 1) := by decide +kernel
theorem dX7_feedLine_55 : decode cX7_feedLine 55 = .ok (.iconst 0, 1) := by decide +kernel
theorem dX7_feedLine_56 : decode cX7_feedLine 56 = .ok (.iastore, 1) := by decide +kernel
theorem dX7_feedLine_57 : decode cX7_feedLine 57 = .ok (.goto 116, 3) := by decide +kernel
theorem dX7_feedLine_60 : decode cX7_feedLine 60 = .ok (.aload_n 0, 1) := by decide +kernel
theorem dX7_feedLine_61 : decode cX7_feedLine 61 = .ok (.getfield 7, 3) := by decide +kernel
theorem dX7_feedLine_64 : decode cX7_feedLine 64 = .ok (.iconst 1, 1) := by decide +kernel
theorem dX7_feedLine_65 : decode cX7_feedLine 65 = .ok (.sipush 230, 3) := by decide +kernel
theorem dX7_feedLine_68 : decode cX7_feedLine 68 = .ok (.aload_n 0, 1) := by decide +kernel
theorem dX7_feedLine_69 : decode cX7_feedLine 69 = .ok (.getfield 7, 3) := by decide +kernel
theorem dX7_feedLine_72 : decode cX7_feedLine 72 = .ok (.bipush 9, 2) := by decide +kernel
theorem dX7_feedLine_74 : decode cX7_feedLine 74 = .ok (.iaload, 1) := by decide +kernel
theorem dX7_feedLine_75 : decode cX7_feedLine 75 = .ok (.imul, 1) := by decide +kernel
theorem dX7_feedLine_76 : decode cX7_feedLine 76 = .ok (.aload_n 0, 1) := by decide +kernel
theorem dX7_feedLine_77 : decode cX7_feedLine 77 = .ok (.getfield 7, 3) := by decide +kernel
theorem dX7_feedLine_80 : decode cX7_feedLine 80 = .ok (.bipush 13, 2) := by decide +kernel
theorem dX7_feedLine_82 : decode cX7_feedLine 82 = .ok (.iaload, 1) := by decide +kernel
theorem dX7_feedLine_83 : decode cX7_feedLine 83 = .ok (.idiv, 1) := by decide +kernel
theorem dX7_feedLine_84 : decode cX7_feedLine 84 = .ok (.iconst 0, 1) := by decide +kernel
theorem dX7_feedLine_85 : decode cX7_feedLine 85 = .ok (.sipush 400, 3) := by decide +kernel
theorem dX7_feedLine_88 : decode cX7_feedLine 88 = .ok (.invokestatic 61, 3) := by decide +kernel
theorem dX7_feedLine_91 : decode cX7_feedLine 91 = .ok (.iastore, 1) := by decide +kernel
theorem dX7_feedLine_92 : decode cX7_feedLine 92 = .ok (.aload_n 0, 1) := by decide +kernel
theorem dX7_feedLine_93 : decode cX7_feedLine 93 = .ok (.getfield 7, 3) := by decide +kernel
theorem dX7_feedLine_96 : decode cX7_feedLine 96 = .ok (.iconst 5, 1) := by decide +kernel
theorem dX7_feedLine_97 : decode cX7_feedLine 97 = .ok (.iaload, 1) := by decide +kernel
theorem dX7_feedLine_98 : decode cX7_feedLine 98 = .ok (.istore_n 1, 1) := by decide +kernel
theorem dX7_feedLine_99 : decode cX7_feedLine 99 = .ok (.iload_n 1, 1) := by decide +kernel
theorem dX7_feedLine_100 : decode cX7_feedLine 100 = .ok (.aload_n 0, 1) := by decide +kernel
theorem dX7_feedLine_101 : decode cX7_feedLine 101 = .ok (.getfield 7, 3) := by decide +kernel
theorem dX7_feedLine_104 : decode cX7_feedLine 104 = .ok (.bipush 28, 2) := by decide +kernel
theorem dX7_feedLine_106 : decode cX7_feedLine 106 = .ok (.iaload, 1) := by decide +kernel
theorem dX7_feedLine_107 : decode cX7_feedLine 107 = .ok (.iadd, 1) := by decide +kernel
theorem dX7_feedLine_108 : decode cX7_feedLine 108 = .ok (.iload_n 1, 1) := by decide +kernel
theorem dX7_feedLine_109 : decode cX7_feedLine 109 = .ok (.ldc 27, 2) := by decide +kernel
theorem dX7_feedLine_111 : decode cX7_feedLine 111 = .ok (.isub, 1) := by decide +kernel
theorem dX7_feedLine_112 : decode cX7_feedLine 112 = .ok (.aload_n 0, 1) := by decide +kernel
theorem dX7_feedLine_113 : decode cX7_feedLine 113 = .ok (.getfield 7, 3) := by decide +kernel
theorem dX7_feedLine_116 : decode cX7_feedLine 116 = .ok (.bipush 29, 2) := by decide +kernel
theorem dX7_feedLine_118 : decode cX7_feedLine 118 = .ok (.iaload, 1) := by decide +kernel
theorem dX7_feedLine_119 : decode cX7_feedLine 119 = .ok (.imul, 1) := by decide +kernel
theorem dX7_feedLine_120 : decode cX7_feedLine 120 = .ok (.bipush 100, 2) := by decide +kernel
theorem dX7_feedLine_122 : decode cX7_feedLine 122 = .ok (.idiv, 1) := by decide +kernel
theorem dX7_feedLine_123 : decode cX7_feedLine 123 = .ok (.iadd, 1) := by decide +kernel
theorem dX7_feedLine_124 : decode cX7_feedLine 124 = .ok (.istore_n 2, 1) := by decide +kernel
theorem dX7_feedLine_125 : decode cX7_feedLine 125 = .ok (.aload_n 0, 1) := by decide +kernel
theorem dX7_feedLine_126 : decode cX7_feedLine 126 = .ok (.getfield 7, 3) := by decide +kernel
theorem dX7_feedLine_129 : decode cX7_feedLine 129 = .ok (.iconst 2, 1) := by decide +kernel
theorem dX7_feedLine_130 : decode cX7_feedLine 130 = .ok (.iaload, 1) := by decide +kernel
theorem dX7_feedLine_131 : decode cX7_feedLine 131 = .ok (.istore_n 3, 1) := by decide +kernel
theorem dX7_feedLine_132 : decode cX7_feedLine 132 = .ok (.aload_n 0, 1) := by decide +kernel
theorem dX7_feedLine_133 : decode cX7_feedLine 133 = .ok (.getfield 7, 3) := by decide +kernel
theorem dX7_feedLine_136 : decode cX7_feedLine 136 = .ok (.iconst 2, 1) := by decide +kernel
theorem dX7_feedLine_137 : decode cX7_feedLine 137 = .ok (.iload_n 3, 1) := by decide +kernel
theorem dX7_feedLine_138 : decode cX7_feedLine 138 = .ok (.iload_n 2, 1) := by decide +kernel
theorem dX7_feedLine_139 : decode cX7_feedLine 139 = .ok (.iload_n 3, 1) := by decide +kernel
theorem dX7_feedLine_140 : decode cX7_feedLine 140 = .ok (.isub, 1) := by decide +kernel
theorem dX7_feedLine_141 : decode cX7_feedLine 141 = .ok (.iconst 4, 1) := by decide +kernel
theorem dX7_feedLine_142 : decode cX7_feedLine 142 = .ok (.idiv, 1) := by decide +kernel
theorem dX7_feedLine_143 : decode cX7_feedLine 143 = .ok (.iadd, 1) := by decide +kernel
theorem dX7_feedLine_144 : decode cX7_feedLine 144 = .ok (.aload_n 0, 1) := by decide +kernel
theorem dX7_feedLine_145 : decode cX7_feedLine 145 = .ok (.getfield 7, 3) := by decide +kernel
theorem dX7_feedLine_148 : decode cX7_feedLine 148 = .ok (.bipush 14, 2) := by decide +kernel
theorem dX7_feedLine_150 : decode cX7_feedLine 150 = .ok (.iaload, 1) := by decide +kernel
theorem dX7_feedLine_151 : decode cX7_feedLine 151 = .ok (.iload_n 3, 1) := by decide +kernel
theorem dX7_feedLine_152 : decode cX7_feedLine 152 = .ok (.isub, 1) := by decide +kernel
theorem dX7_feedLine_153 : decode cX7_feedLine 153 = .ok (.aload_n 0, 1) := by decide +kernel
theorem dX7_feedLine_154 : decode cX7_feedLine 154 = .ok (.getfield 7, 3) := by decide +kernel
theorem dX7_feedLine_157 : decode cX7_feedLine 157 = .ok (.bipush 15, 2) := by decide +kernel
theorem dX7_feedLine_159 : decode cX7_feedLine 159 = .ok (.iaload, 1) := by decide +kernel
theorem dX7_feedLine_160 : decode cX7_feedLine 160 = .ok (.imul, 1) := by decide +kernel
theorem dX7_feedLine_161 : decode cX7_feedLine 161 = .ok (.bipush 100, 2) := by decide +kernel
theorem dX7_feedLine_163 : decode cX7_feedLine 163 = .ok (.idiv, 1) := by decide +kernel
theorem dX7_feedLine_164 : decode cX7_feedLine 164 = .ok (.iadd, 1) := by decide +kernel
theorem dX7_feedLine_165 : decode cX7_feedLine 165 = .ok (.ldc 55, 2) := by decide +kernel
theorem dX7_feedLine_167 : decode cX7_feedLine 167 = .ok (.ldc 56, 2) := by decide +kernel
theorem dX7_feedLine_169 : decode cX7_feedLine 169 = .ok (.invokestatic 61, 3) := by decide +kernel
theorem dX7_feedLine_172 : decode cX7_feedLine 172 = .ok (.iastore, 1) := by decide +kernel
theorem dX7_feedLine_173 : decode cX7_feedLine 173 = .ok (.aload_n 0, 1) := by decide +kernel
theorem dX7_feedLine_174 : decode cX7_feedLine 174 = .ok (.getfield 7, 3) := by decide +kernel
theorem dX7_feedLine_177 : decode cX7_feedLine 177 = .ok (.iconst 3, 1) := by decide +kernel
theorem dX7_feedLine_178 : decode cX7_feedLine 178 = .ok (.aload_n 0, 1) := by decide +kernel
theorem dX7_feedLine_179 : decode cX7_feedLine 179 = .ok (.getfield 7, 3) := by decide +kernel
theorem dX7_feedLine_182 : decode cX7_feedLine 182 = .ok (.iconst 3, 1) := by decide +kernel
theorem dX7_feedLine_183 : decode cX7_feedLine 183 = .ok (.iaload, 1) := by decide +kernel
theorem dX7_feedLine_184 : decode cX7_feedLine 184 = .ok (.aload_n 0, 1) := by decide +kernel
theorem dX7_feedLine_185 : decode cX7_feedLine 185 = .ok (.getfield 7, 3) := by decide +kernel
theorem dX7_feedLine_188 : decode cX7_feedLine 188 = .ok (.iconst 2, 1) := by decide +kernel
theorem dX7_feedLine_189 : decode cX7_feedLine 189 = .ok (.iaload, 1) := by decide +kernel
theorem dX7_feedLine_190 : decode cX7_feedLine 190 = .ok (.iadd, 1) := by decide +kernel
theorem dX7_feedLine_191 : decode cX7_feedLine 191 = .ok (.invokestatic 43, 3) := by decide +kernel
theorem dX7_feedLine_194 : decode cX7_feedLine 194 = .ok (.iastore, 1) := by decide +kernel
theorem dX7_feedLine_195 : decode cX7_feedLine 195 = .ok (.return_, 1) := by decide +kernel
set_option maxRecDepth 20000 in
theorem ggX7_follow_X7_round : GoodIn wsX7_follow wsX7_round := goodIn_r _ [9, 3] (by decide +kernel) (by decide +kernel)
set_option maxRecDepth 20000 in
theorem gX7_follow_X7_round : GoodIn wsX7_follow (va_wsS RX7 43 yX7_round wsX7_round) := goodIn_app (goodIn_of _ (by decide +kernel)) ggX7_follow_X7_round
set_option maxRecDepth 20000 in
theorem ggX7_follow_X7_limited : GoodIn wsX7_follow wsX7_limited := goodIn_r _ [12] (by decide +kernel) (by decide +kernel)
set_option maxRecDepth 20000 in
theorem gX7_follow_X7_limited : GoodIn wsX7_follow (va_wsS RX7 61 yX7_limited wsX7_limited) := goodIn_app (goodIn_of _ (by decide +kernel)) ggX7_follow_X7_limited
set_option maxRecDepth 20000 in
theorem ggX7_follow_X7_in : GoodIn wsX7_follow wsX7_in := goodIn_r _ [15] (by decide +kernel) (by decide +kernel)
set_option maxRecDepth 20000 in
theorem gX7_follow_X7_in : GoodIn wsX7_follow (va_wsS RX7 35 yX7_in wsX7_in) := goodIn_app (goodIn_of _ (by decide +kernel)) ggX7_follow_X7_in
theorem dX7_follow_0 : decode cX7_follow 0 = .ok (.aload_n 0, 1) := by decide +kernel
theorem dX7_follow_1 : decode cX7_follow 1 = .ok (.getfield 7, 3) := by decide +kernel
theorem dX7_follow_4 : decode cX7_follow 4 = .ok (.iconst 4, 1) := by decide +kernel
theorem dX7_follow_5 : decode cX7_follow 5 = .ok (.iaload, 1) := by decide +kernel
theorem dX7_follow_6 : decode cX7_follow 6 = .ok (.aload_n 0, 1) := by decide +kernel
theorem dX7_follow_7 : decode cX7_follow 7 = .ok (.getfield 7, 3) := by decide +kernel
theorem dX7_follow_10 : decode cX7_follow 10 = .ok (.iconst 5, 1) := by decide +kernel
theorem dX7_follow_11 : decode cX7_follow 11 = .ok (.iaload, 1) := by decide +kernel
theorem dX7_follow_12 : decode cX7_follow 12 = .ok (.iadd, 1) := by decide +kernel
theorem dX7_follow_13 : decode cX7_follow 13 = .ok (.istore_n 1, 1) := by decide +kernel
theorem dX7_follow_14 : decode cX7_follow 14 = .ok (.aload_n 0, 1) := by decide +kernel
theorem dX7_follow_15 : decode cX7_follow 15 = .ok (.getfield 7, 3) := by decide +kernel
theorem dX7_follow_18 : decode cX7_follow 18 = .ok (.iconst 1, 1) := by decide +kernel
theorem dX7_follow_19 : decode cX7_follow 19 = .ok (.iaload, 1) := by decide +kernel
theorem dX7_follow_20 : decode cX7_follow 20 = .ok (.bipush 20, 2) := by decide +kernel
theorem dX7_follow_22 : decode cX7_follow 22 = .ok (.if_icmp .lt 140, 3) := by decide +kernel
theorem dX7_follow_25 : decode cX7_follow 25 = .ok (.aload_n 0, 1) := by decide +kernel
theorem dX7_follow_26 : decode cX7_follow 26 = .ok (.getfield 7, 3) := by decide +kernel
theorem dX7_follow_29 : decode cX7_follow 29 = .ok (.iconst 3, 1) := by decide +kernel
theorem dX7_follow_30 : decode cX7_follow 30 = .ok (.iaload, 1) := by decide +kernel
theorem dX7_follow_31 : decode cX7_follow 31 = .ok (.iload_n 1, 1) := by decide +kernel
theorem dX7_follow_32 : decode cX7_follow 32 = .ok (.isub, 1) := by decide +kernel
theorem dX7_follow_33 : decode cX7_follow 33 = .ok (.invokestatic 43, 3) := by decide +kernel
theorem dX7_follow_36 : decode cX7_follow 36 = .ok (.istore_n 2, 1) := by decide +kernel
theorem dX7_follow_37 : decode cX7_follow 37 = .ok (.iload_n 2, 1) := by decide +kernel
theorem dX7_follow_38 : decode cX7_follow 38 = .ok (.ldc 42, 2) := by decide +kernel
theorem dX7_follow_40 : decode cX7_follow 40 = .ok (.if_icmp .lt 10, 3) := by decide +kernel
theorem dX7_follow_43 : decode cX7_follow 43 = .ok (.iload_n 2, 1) := by decide +kernel
theorem dX7_follow_44 : decode cX7_follow 44 = .ok (.ldc 34, 2) := by decide +kernel
theorem dX7_follow_46 : decode cX7_follow 46 = .ok (.isub, 1) := by decide +kernel
theorem dX7_follow_47 : decode cX7_follow 47 = .ok (.goto 4, 3) := by decide +kernel
theorem dX7_follow_50 : decode cX7_follow 50 = .ok (.iload_n 2, 1) := by decide +kernel
theorem dX7_follow_51 : decode cX7_follow 51 = .ok (.istore_n 2, 1) := by decide +kernel
theorem dX7_follow_52 : decode cX7_follow 52 = .ok (.aload_n 0, 1) := by decide +kernel
theorem dX7_follow_53 : decode cX7_follow 53 = .ok (.getfield 7, 3) := by decide +kernel
theorem dX7_follow_56 : decode cX7_follow 56 = .ok (.bipush 6, 2) := by decide +kernel
theorem dX7_follow_58 : decode cX7_follow 58 = .ok (.iload_n 2, 1) := by decide +kernel
theorem dX7_follow_59 : decode cX7_follow 59 = .ok (.iastore, 1) := by decide +kernel
theorem dX7_follow_60 : decode cX7_follow 60 = .ok (.aload_n 0, 1) := by decide +kernel
theorem dX7_follow_61 : decode cX7_follow 61 = .ok (.getfield 7, 3) := by decide +kernel
theorem dX7_follow_64 : decode cX7_follow 64 = .ok (.iconst 4, 1) := by decide +kernel
theorem dX7_follow_65 : decode cX7_follow 65 = .ok (.iload_n 1, 1) := by decide +kernel
theorem dX7_follow_66 : decode cX7_follow 66 = .ok (.iload_n 2, 1) := by decide +kernel
theorem dX7_follow_67 : decode cX7_follow 67 = .ok (.aload_n 0, 1) := by decide +kernel
theorem dX7_follow_68 : decode cX7_follow 68 = .ok (.getfield 7, 3) := by decide +kernel
theorem dX7_follow_71 : decode cX7_follow 71 = .ok (.bipush 16, 2) := by decide +kernel
theorem dX7_follow_73 : decode cX7_follow 73 = .ok (.iaload, 1) := by decide +kernel
theorem dX7_follow_74 : decode cX7_follow 74 = .ok (.imul, 1) := by decide +kernel
theorem dX7_follow_75 : decode cX7_follow 75 = .ok (.sipush 1000, 3) := by decide +kernel
theorem dX7_follow_78 : decode cX7_follow 78 = .ok (.idiv, 1) := by decide +kernel
theorem dX7_follow_79 : decode cX7_follow 79 = .ok (.iadd, 1) := by decide +kernel
theorem dX7_follow_80 : decode cX7_follow 80 = .ok (.invokestatic 43, 3) := by decide +kernel
theorem dX7_follow_83 : decode cX7_follow 83 = .ok (.iastore, 1) := by decide +kernel
theorem dX7_follow_84 : decode cX7_follow 84 = .ok (.aload_n 0, 1) := by decide +kernel
theorem dX7_follow_85 : decode cX7_follow 85 = .ok (.getfield 7, 3) := by decide +kernel
theorem dX7_follow_88 : decode cX7_follow 88 = .ok (.iconst 5, 1) := by decide +kernel
theorem dX7_follow_89 : decode cX7_follow 89 = .ok (.aload_n 0, 1) := by decide +kernel
theorem dX7_follow_90 : decode cX7_follow 90 = .ok (.getfield 7, 3) := by decide +kernel
theorem dX7_follow_93 : decode cX7_follow 93 = .ok (.iconst 5, 1) := by decide +kernel
theorem dX7_follow_94 : decode cX7_follow 94 = .ok (.iaload, 1) := by decide +kernel
theorem dX7_follow_95 : decode cX7_follow 95 = .ok (.iload_n 2, 1) := by decide +kernel
theorem dX7_follow_96 : decode cX7_follow 96 = .ok (.aload_n 0, 1) := by decide +kernel
theorem dX7_follow_97 : decode cX7_follow 97 = .ok (.getfield 7, 3) := by decide +kernel
theorem dX7_follow_100 : decode cX7_follow 100 = .ok (.bipush 17, 2) := by decide +kernel
theorem dX7_follow_102 : decode cX7_follow 102 = .ok (.iaload, 1) := by decide +kernel
theorem dX7_follow_103 : decode cX7_follow 103 = .ok (.imul, 1) := by decide +kernel
theorem dX7_follow_104 : decode cX7_follow 104 = .ok (.sipush 1000, 3) := by decide +kernel
theorem dX7_follow_107 : decode cX7_follow 107 = .ok (.idiv, 1) := by decide +kernel
theorem dX7_follow_108 : decode cX7_follow 108 = .ok (.iadd, 1) := by decide +kernel
theorem dX7_follow_109 : decode cX7_follow 109 = .ok (.ldc 55, 2) := by decide +kernel
theorem dX7_follow_111 : decode cX7_follow 111 = .ok (.ldc 56, 2) := by decide +kernel
theorem dX7_follow_113 : decode cX7_follow 113 = .ok (.invokestatic 61, 3) := by decide +kernel
theorem dX7_follow_116 : decode cX7_follow 116 = .ok (.iastore, 1) := by decide +kernel
theorem dX7_follow_117 : decode cX7_follow 117 = .ok (.aload_n 0, 1) := by decide +kernel
theorem dX7_follow_118 : decode cX7_follow 118 = .ok (.getfield 7, 3) := by decide +kernel
theorem dX7_follow_121 : decode cX7_follow 121 = .ok (.bipush 7, 2) := by decide +kernel
theorem dX7_follow_123 : decode cX7_follow 123 = .ok (.iload_n 2, 1) := by decide +kernel
theorem dX7_follow_124 : decode cX7_follow 124 = .ok (.aload_n 0, 1) := by decide +kernel
theorem dX7_follow_125 : decode cX7_follow 125 = .ok (.getfield 7, 3) := by decide +kernel
theorem dX7_follow_128 : decode cX7_follow 128 = .ok (.bipush 18, 2) := by decide +kernel
theorem dX7_follow_130 : decode cX7_follow 130 = .ok (.iaload, 1) := by decide +kernel
theorem dX7_follow_131 : decode cX7_follow 131 = .ok (.ineg, 1) := by decide +kernel
theorem dX7_follow_132 : decode cX7_follow 132 = .ok (.aload_n 0, 1) := by decide +kernel
theorem dX7_follow_133 : decode cX7_follow 133 = .ok (.getfield 7, 3) := by decide +kernel
theorem dX7_follow_136 : decode cX7_follow 136 = .ok (.bipush 18, 2) := by decide +kernel
theorem dX7_follow_138 : decode cX7_follow 138 = .ok (.iaload, 1) := by decide +kernel
theorem dX7_follow_139 : decode cX7_follow 139 = .ok (.invokestatic 35, 3) := by decide +kernel
theorem dX7_follow_142 : decode cX7_follow 142 = .ok (.ifCond .eq 15, 3) := by decide +kernel
theorem dX7_follow_145 : decode cX7_follow 145 = .ok (.aload_n 0, 1) := by decide +kernel
theorem dX7_follow_146 : decode cX7_follow 146 = .ok (.getfield 7, 3) := by decide +kernel
theorem dX7_follow_149 : decode cX7_follow 149 = .ok (.bipush 7, 2) := by decide +kernel
theorem dX7_follow_151 : decode cX7_follow 151 = .ok (.iaload, 1) := by decide +kernel
theorem dX7_follow_152 : decode cX7_follow 152 = .ok (.iconst 1, 1) := by decide +kernel
theorem dX7_follow_153 : decode cX7_follow 153 = .ok (.iadd, 1) := by decide +kernel
theorem dX7_follow_154 : decode cX7_follow 154 = .ok (.goto 4, 3) := by decide +kernel
theorem dX7_follow_157 : decode cX7_follow 157 = .ok (.iconst 0, 1) := by decide +kernel
theorem dX7_follow_158 : decode cX7_follow 158 = .ok (.iastore, 1) := by decide +kernel
theorem dX7_follow_159 : decode cX7_follow 159 = .ok (.goto 29, 3) := by decide +kernel
theorem dX7_follow_162 : decode cX7_follow 162 = .ok (.aload_n 0, 1) := by decide +kernel
theorem dX7_follow_163 : decode cX7_follow 163 = .ok (.getfield 7, 3) := by decide +kernel
theorem dX7_follow_166 : decode cX7_follow 166 = .ok (.bipush 6, 2) := by decide +kernel
theorem dX7_follow_168 : decode cX7_follow 168 = .ok (.iconst 0, 1) := by decide +kernel
theorem dX7_follow_169 : decode cX7_follow 169 = .ok (.iastore, 1) := by decide +kernel
theorem dX7_follow_170 : decode cX7_follow 170 = .ok (.aload_n 0, 1) := by decide +kernel
theorem dX7_follow_171 : decode cX7_follow 171 = .ok (.getfield 7, 3) := by decide +kernel
theorem dX7_follow_174 : decode cX7_follow 174 = .ok (.iconst 4, 1) := by decide +kernel
theorem dX7_follow_175 : decode cX7_follow 175 = .ok (.iload_n 1, 1) := by decide +kernel
theorem dX7_follow_176 : decode cX7_follow 176 = .ok (.invokestatic 43, 3) := by decide +kernel
theorem dX7_follow_179 : decode cX7_follow 179 = .ok (.iastore, 1) := by decide +kernel
theorem dX7_follow_180 : decode cX7_follow 180 = .ok (.aload_n 0, 1) := by decide +kernel
theorem dX7_follow_181 : decode cX7_follow 181 = .ok (.getfield 7, 3) := by decide +kernel
theorem dX7_follow_184 : decode cX7_follow 184 = .ok (.bipush 7, 2) := by decide +kernel
theorem dX7_follow_186 : decode cX7_follow 186 = .ok (.iconst 0, 1) := by decide +kernel
theorem dX7_follow_187 : decode cX7_follow 187 = .ok (.iastore, 1) := by decide +kernel
theorem dX7_follow_188 : decode cX7_follow 188 = .ok (.return_, 1) := by decide +kernel
theorem dX7_hasLock_0 : decode cX7_hasLock 0 = .ok (.aload_n 0, 1) := by decide +kernel
theorem dX7_hasLock_1 : decode cX7_hasLock 1 = .ok (.getfield 7, 3) := by decide +kernel
theorem dX7_hasLock_4 : decode cX7_hasLock 4 = .ok (.bipush 7, 2) := by decide +kernel
theorem dX7_hasLock_6 : decode cX7_hasLock 6 = .ok (.iaload, 1) := by decide +kernel
theorem dX7_hasLock_7 : decode cX7_hasLock 7 = .ok (.aload_n 0, 1) := by decide +kernel
theorem dX7_hasLock_8 : decode cX7_hasLock 8 = .ok (.getfield 7, 3) := by decide +kernel
theorem dX7_hasLock_11 : decode cX7_hasLock 11 = .ok (.bipush 19, 2) := by decide +kernel
theorem dX7_hasLock_13 : decode cX7_hasLock 13 = .ok (.iaload, 1) := by decide +kernel
theorem dX7_hasLock_14 : decode cX7_hasLock 14 = .ok (.if_icmp .lt 7, 3) := by decide +kernel
theorem dX7_hasLock_17 : decode cX7_hasLock 17 = .ok (.iconst 1, 1) := by decide +kernel
theorem dX7_hasLock_18 : decode cX7_hasLock 18 = .ok (.goto 4, 3) := by decide +kernel
theorem dX7_hasLock_21 : decode cX7_hasLock 21 = .ok (.iconst 0, 1) := by decide +kernel
theorem dX7_hasLock_22 : decode cX7_hasLock 22 = .ok (.ireturn, 1) := by decide +kernel
theorem dX7_isViolated_0 : decode cX7_isViolated 0 = .ok (.aload_n 0, 1) := by decide +kernel
theorem dX7_isViolated_1 : decode cX7_isViolated 1 = .ok (.getfield 7, 3) := by decide +kernel
theorem dX7_isViolated_4 : decode cX7_isViolated 4 = .ok (.bipush 61, 2) := by decide +kernel
theorem dX7_isViolated_6 : decode cX7_isViolated 6 = .ok (.iload_n 1, 1) := by decide +kernel
theorem dX7_isViolated_7 : decode cX7_isViolated 7 = .ok (.iadd, 1) := by decide +kernel
theorem dX7_isViolated_8 : decode cX7_isViolated 8 = .ok (.iaload, 1) := by decide +kernel
theorem dX7_isViolated_9 : decode cX7_isViolated 9 = .ok (.istore_n 2, 1) := by decide +kernel
theorem dX7_isViolated_10 : decode cX7_isViolated 10 = .ok (.aload_n 0, 1) := by decide +kernel
theorem dX7_isViolated_11 : decode cX7_isViolated 11 = .ok (.getfield 7, 3) := by decide +kernel
theorem dX7_isViolated_14 : decode cX7_isViolated 14 = .ok (.iconst 5, 1) := by decide +kernel
theorem dX7_isViolated_15 : decode cX7_isViolated 15 = .ok (.iaload, 1) := by decide +kernel
theorem dX7_isViolated_16 : decode cX7_isViolated 16 = .ok (.aload_n 0, 1) := by decide +kernel
theorem dX7_isViolated_17 : decode cX7_isViolated 17 = .ok (.getfield 7, 3) := by decide +kernel
theorem dX7_isViolated_20 : decode cX7_isViolated 20 = .ok (.bipush 33, 2) := by decide +kernel
theorem dX7_isViolated_22 : decode cX7_isViolated 22 = .ok (.aload_n 0, 1) := by decide +kernel
theorem dX7_isViolated_23 : decode cX7_isViolated 23 = .ok (.getfield 7, 3) := by decide +kernel
theorem dX7_isViolated_26 : decode cX7_isViolated 26 = .ok (.iconst 0, 1) := by decide +kernel
theorem dX7_isViolated_27 : decode cX7_isViolated 27 = .ok (.iaload, 1) := by decide +kernel
theorem dX7_isViolated_28 : decode cX7_isViolated 28 = .ok (.bipush 20, 2) := by decide +kernel
theorem dX7_isViolated_30 : decode cX7_isViolated 30 = .ok (.irem, 1) := by decide +kernel
theorem dX7_isViolated_31 : decode cX7_isViolated 31 = .ok (.iadd, 1) := by decide +kernel
theorem dX7_isViolated_32 : decode cX7_isViolated 32 = .ok (.iaload, 1) := by decide +kernel
theorem dX7_isViolated_33 : decode cX7_isViolated 33 = .ok (.isub, 1) := by decide +kernel
theorem dX7_isViolated_34 : decode cX7_isViolated 34 = .ok (.istore_n 3, 1) := by decide +kernel
theorem dX7_isViolated_35 : decode cX7_isViolated 35 = .ok (.aload_n 0, 1) := by decide +kernel
theorem dX7_isViolated_36 : decode cX7_isViolated 36 = .ok (.getfield 7, 3) := by decide +kernel
theorem dX7_isViolated_39 : decode cX7_isViolated 39 = .ok (.bipush 53, 2) := by decide +kernel
theorem dX7_isViolated_41 : decode cX7_isViolated 41 = .ok (.iload_n 1, 1) := by decide +kernel
theorem dX7_isViolated_42 : decode cX7_isViolated 42 = .ok (.iadd, 1) := by decide +kernel
theorem dX7_isViolated_43 : decode cX7_isViolated 43 = .ok (.iaload, 1) := by decide +kernel
theorem dX7_isViolated_44 : decode cX7_isViolated 44 = .ok (.tableswitch 96 0 3 #[32, 48, 64, 80], 32) := by decide +kernel
theorem dX7_isViolated_76 : decode cX7_isViolated 76 = .ok (.aload_n 0, 1) := by decide +kernel
theorem dX7_isViolated_77 : decode cX7_isViolated 77 = .ok (.getfield 7, 3) := by decide +kernel
theorem dX7_isViolated_80 : decode cX7_isViolated 80 = .ok (.iconst 1, 1) := by decide +kernel
theorem dX7_isViolated_81 : decode cX7_isViolated 81 = .ok (.iaload, 1) := by decide +kernel
theorem dX7_isViolated_82 : decode cX7_isViolated 82 = .ok (.iload_n 2, 1) := by decide +kernel
theorem dX7_isViolated_83 : decode cX7_isViolated 83 = .ok (.if_icmp .ge 7, 3) := by decide +kernel
theorem dX7_isViolated_86 : decode cX7_isViolated 86 = .ok (.iconst 1, 1) := by decide +kernel
theorem dX7_isViolated_87 : decode cX7_isViolated 87 = .ok (.goto 4, 3) := by decide +kernel
theorem dX7_isViolated_90 : decode cX7_isViolated 90 = .ok (.iconst 0, 1) := by decide +kernel
theorem dX7_isViolated_91 : decode cX7_isViolated 91 = .ok (.ireturn, 1) := by decide +kernel
theorem dX7_isViolated_92 : decode cX7_isViolated 92 = .ok (.aload_n 0, 1) := by decide +kernel
theorem dX7_isViolated_93 : decode cX7_isViolated 93 = .ok (.getfield 7, 3) := by decide +kernel
theorem dX7_isViolated_96 : decode cX7_isViolated 96 = .ok (.iconst 1, 1) := by decide +kernel
theorem dX7_isViolated_97 : decode cX7_isViolated 97 = .ok (.iaload, 1) := by decide +kernel
theorem dX7_isViolated_98 : decode cX7_isViolated 98 = .ok (.iload_n 2, 1) := by decide +kernel
theorem dX7_isViolated_99 : decode cX7_isViolated 99 = .ok (.if_icmp .le 7, 3) := by decide +kernel
theorem dX7_isViolated_102 : decode cX7_isViolated 102 = .ok (.iconst 1, 1) := by decide +kernel
theorem dX7_isViolated_103 : decode cX7_isViolated 103 = .ok (.goto 4, 3) := by decide +kernel
theorem dX7_isViolated_106 : decode cX7_isViolated 106 = .ok (.iconst 0, 1) := by decide +kernel
theorem dX7_isViolated_107 : decode cX7_isViolated 107 = .ok (.ireturn, 1) := by decide +kernel
theorem dX7_isViolated_108 : decode cX7_isViolated 108 = .ok (.aload_n 0, 1) := by decide +kernel
theorem dX7_isViolated_109 : decode cX7_isViolated 109 = .ok (.getfield 7, 3) := by decide +kernel
theorem dX7_isViolated_112 : decode cX7_isViolated 112 = .ok (.iconst 5, 1) := by decide +kernel
theorem dX7_isViolated_113 : decode cX7_isViolated 113 = .ok (.iaload, 1) := by decide +kernel
theorem dX7_isViolated_114 : decode cX7_isViolated 114 = .ok (.iload_n 2, 1) := by decide +kernel
theorem dX7_isViolated_115 : decode cX7_isViolated 115 = .ok (.if_icmp .ge 7, 3) := by decide +kernel
theorem dX7_isViolated_118 : decode cX7_isViolated 118 = .ok (.iconst 1, 1) := by decide +kernel
theorem dX7_isViolated_119 : decode cX7_isViolated 119 = .ok (.goto 4, 3) := by decide +kernel
theorem dX7_isViolated_122 : decode cX7_isViolated 122 = .ok (.iconst 0, 1) := by decide +kernel
theorem dX7_isViolated_123 : decode cX7_isViolated 123 = .ok (.ireturn, 1) := by decide +kernel
theorem dX7_isViolated_124 : decode cX7_isViolated 124 = .ok (.aload_n 0, 1) := by decide +kernel
theorem dX7_isViolated_125 : decode cX7_isViolated 125 = .ok (.getfield 7, 3) := by decide +kernel
theorem dX7_isViolated_128 : decode cX7_isViolated 128 = .ok (.iconst 5, 1) := by decide +kernel
theorem dX7_isViolated_129 : decode cX7_isViolated 129 = .ok (.iaload, 1) := by decide +kernel
theorem dX7_isViolated_130 : decode cX7_isViolated 130 = .ok (.iload_n 2, 1) := by decide +kernel
theorem dX7_isViolated_131 : decode cX7_isViolated 131 = .ok (.if_icmp .le 7, 3) := by decide +kernel
theorem dX7_isViolated_134 : decode cX7_isViolated 134 = .ok (.iconst 1, 1) := by decide +kernel
theorem dX7_isViolated_135 : decode cX7_isViolated 135 = .ok (.goto 4, 3) := by decide +kernel
theorem dX7_isViolated_138 : decode cX7_isViolated 138 = .ok (.iconst 0, 1) := by decide +kernel
theorem dX7_isViolated_139 : decode cX7_isViolated 139 = .ok (.ireturn, 1) := by decide +kernel
theorem dX7_isViolated_140 : decode cX7_isViolated 140 = .ok (.iload_n 3, 1) := by decide +kernel
theorem dX7_isViolated_141 : decode cX7_isViolated 141 = .ok (.iload_n 2, 1) := by decide +kernel
theorem dX7_isViolated_142 : decode cX7_isViolated 142 = .ok (.if_icmp .gt 9, 3) := by decide +kernel
theorem dX7_isViolated_145 : decode cX7_isViolated 145 = .ok (.iload_n 3, 1) := by decide +kernel
theorem dX7_isViolated_146 : decode cX7_isViolated 146 = .ok (.ineg, 1) := by decide +kernel
theorem dX7_isViolated_147 : decode cX7_isViolated 147 = .ok (.iload_n 2, 1) := by decide +kernel
theorem dX7_isViolated_148 : decode cX7_isViolated 148 = .ok (.if_icmp .le 7, 3) := by decide +kernel
theorem dX7_isViolated_151 : decode cX7_isViolated 151 = .ok (.iconst 1, 1) := by decide +kernel
theorem dX7_isViolated_152 : decode cX7_isViolated 152 = .ok (.goto 4, 3) := by decide +kernel
theorem dX7_isViolated_155 : decode cX7_isViolated 155 = .ok (.iconst 0, 1) := by decide +kernel
theorem dX7_isViolated_156 : decode cX7_isViolated 156 = .ok (.ireturn, 1) := by decide +kernel
set_option maxRecDepth 20000 in
theorem ggX7_trip_X7_note : GoodIn wsX7_trip wsX7_note := goodIn_r _ [6, 1, 7, 8, 9, 10, 11, 12, 13] (by decide +kernel) (by decide +kernel)
set_option maxRecDepth 20000 in
theorem gX7_trip_X7_note : GoodIn wsX7_trip (wsV RX7 57 RX7 yX7_note wsX7_note) := goodIn_app (goodIn_of _ (by decide +kernel)) ggX7_trip_X7_note
theorem dX7_trip_0 : decode cX7_trip 0 = .ok (.aload_n 0, 1) := by decide +kernel
theorem dX7_trip_1 : decode cX7_trip 1 = .ok (.getfield 7, 3) := by decide +kernel
theorem dX7_trip_4 : decode cX7_trip 4 = .ok (.bipush 20, 2) := by decide +kernel
theorem dX7_trip_6 : decode cX7_trip 6 = .ok (.iconst 0, 1) := by decide +kernel
theorem dX7_trip_7 : decode cX7_trip 7 = .ok (.iastore, 1) := by decide +kernel
theorem dX7_trip_8 : decode cX7_trip 8 = .ok (.aload_n 0, 1) := by decide +kernel
theorem dX7_trip_9 : decode cX7_trip 9 = .ok (.getfield 7, 3) := by decide +kernel
theorem dX7_trip_12 : decode cX7_trip 12 = .ok (.bipush 9, 2) := by decide +kernel
theorem dX7_trip_14 : decode cX7_trip 14 = .ok (.iconst 0, 1) := by decide +kernel
theorem dX7_trip_15 : decode cX7_trip 15 = .ok (.iastore, 1) := by decide +kernel
theorem dX7_trip_16 : decode cX7_trip 16 = .ok (.aload_n 0, 1) := by decide +kernel
theorem dX7_trip_17 : decode cX7_trip 17 = .ok (.getfield 7, 3) := by decide +kernel
theorem dX7_trip_20 : decode cX7_trip 20 = .ok (.bipush 8, 2) := by decide +kernel
theorem dX7_trip_22 : decode cX7_trip 22 = .ok (.iconst 0, 1) := by decide +kernel
theorem dX7_trip_23 : decode cX7_trip 23 = .ok (.iastore, 1) := by decide +kernel
theorem dX7_trip_24 : decode cX7_trip 24 = .ok (.aload_n 0, 1) := by decide +kernel
theorem dX7_trip_25 : decode cX7_trip 25 = .ok (.iload_n 1, 1) := by decide +kernel
theorem dX7_trip_26 : decode cX7_trip 26 = .ok (.invokevirtual 57, 3) := by decide +kernel
theorem dX7_trip_29 : decode cX7_trip 29 = .ok (.return_, 1) := by decide +kernel
set_option maxRecDepth 20000 in
theorem ggX7_run_X7_hasLock : GoodIn wsX7_run wsX7_hasLock := goodIn_r _ [6, 1, 22, 23, 24, 25, 26, 27, 28] (by decide +kernel) (by decide +kernel)
set_option maxRecDepth 20000 in
theorem gX7_run_X7_hasLock : GoodIn wsX7_run (wsV RX7 65 RX7 yX7_hasLock wsX7_hasLock) := goodIn_app (goodIn_of _ (by decide +kernel)) ggX7_run_X7_hasLock
set_option maxRecDepth 20000 in
theorem ggX7_run_X7_trip : GoodIn wsX7_run wsX7_trip := goodIn_r _ [10, 1, 11, 12, 13, 5, 14, 22, 23, 24, 25, 26, 27, 28] (by decide +kernel) (by decide +kernel)
set_option maxRecDepth 20000 in
theorem gX7_run_X7_trip : GoodIn wsX7_run (wsV RX7 69 RX7 yX7_trip wsX7_trip) := goodIn_app (goodIn_of _ (by decide +kernel)) ggX7_run_X7_trip
set_option maxRecDepth 20000 in
theorem ggX7_run_X7_isViolated : GoodIn wsX7_run wsX7_isViolated := goodIn_r _ [18, 1, 22, 23, 24, 25, 26, 27, 28] (by decide +kernel) (by decide +kernel)
set_option maxRecDepth 20000 in
theorem gX7_run_X7_isViolated : GoodIn wsX7_run (wsV RX7 72 RX7 yX7_isViolated wsX7_isViolated) := goodIn_app (goodIn_of _ (by decide +kernel)) ggX7_run_X7_isViolated
set_option maxRecDepth 20000 in
theorem ggX7_run_X7_limited : GoodIn wsX7_run wsX7_limited := goodIn_r _ [21] (by decide +kernel) (by decide +kernel)
set_option maxRecDepth 20000 in
theorem gX7_run_X7_limited : GoodIn wsX7_run (va_wsS RX7 61 yX7_limited wsX7_limited) := goodIn_app (goodIn_of _ (by decide +kernel)) ggX7_run_X7_limited
theorem dX7_run_0 : decode cX7_run 0 = .ok (.aload_n 0, 1) := by decide +kernel
theorem dX7_run_1 : decode cX7_run 1 = .ok (.invokevirtual 65, 3) := by decide +kernel
theorem dX7_run_4 : decode cX7_run 4 = .ok (.ifCond .ne 10, 3) := by decide +kernel
theorem dX7_run_7 : decode cX7_run 7 = .ok (.aload_n 0, 1) := by decide +kernel
theorem dX7_run_8 : decode cX7_run 8 = .ok (.bipush 101, 2) := by decide +kernel
theorem dX7_run_10 : decode cX7_run 10 = .ok (.invokevirtual 69, 3) := by decide +kernel
theorem dX7_run_13 : decode cX7_run 13 = .ok (.return_, 1) := by decide +kernel
theorem dX7_run_14 : decode cX7_run 14 = .ok (.iconst (-1), 1) := by decide +kernel
theorem dX7_run_15 : decode cX7_run 15 = .ok (.istore_n 1, 1) := by decide +kernel
theorem dX7_run_16 : decode cX7_run 16 = .ok (.aload_n 0, 1) := by decide +kernel
theorem dX7_run_17 : decode cX7_run 17 = .ok (.getfield 7, 3) := by decide +kernel
theorem dX7_run_20 : decode cX7_run 20 = .ok (.bipush 30, 2) := by decide +kernel
theorem dX7_run_22 : decode cX7_run 22 = .ok (.iaload, 1) := by decide +kernel
theorem dX7_run_23 : decode cX7_run 23 = .ok (.iconst 1, 1) := by decide +kernel
theorem dX7_run_24 : decode cX7_run 24 = .ok (.isub, 1) := by decide +kernel
theorem dX7_run_25 : decode cX7_run 25 = .ok (.istore_n 2, 1) := by decide +kernel
theorem dX7_run_26 : decode cX7_run 26 = .ok (.iload_n 2, 1) := by decide +kernel
theorem dX7_run_27 : decode cX7_run 27 = .ok (.ifCond .lt 68, 3) := by decide +kernel
theorem dX7_run_30 : decode cX7_run 30 = .ok (.aload_n 0, 1) := by decide +kernel
theorem dX7_run_31 : decode cX7_run 31 = .ok (.getfield 7, 3) := by decide +kernel
theorem dX7_run_34 : decode cX7_run 34 = .ok (.bipush 77, 2) := by decide +kernel
theorem dX7_run_36 : decode cX7_run 36 = .ok (.iload_n 2, 1) := by decide +kernel
theorem dX7_run_37 : decode cX7_run 37 = .ok (.iadd, 1) := by decide +kernel
theorem dX7_run_38 : decode cX7_run 38 = .ok (.aload_n 0, 1) := by decide +kernel
theorem dX7_run_39 : decode cX7_run 39 = .ok (.iload_n 2, 1) := by decide +kernel
theorem dX7_run_40 : decode cX7_run 40 = .ok (.invokevirtual 72, 3) := by decide +kernel
theorem dX7_run_43 : decode cX7_run 43 = .ok (.ifCond .eq 17, 3) := by decide +kernel
theorem dX7_run_46 : decode cX7_run 46 = .ok (.aload_n 0, 1) := by decide +kernel
theorem dX7_run_47 : decode cX7_run 47 = .ok (.getfield 7, 3) := by decide +kernel
theorem dX7_run_50 : decode cX7_run 50 = .ok (.bipush 77, 2) := by decide +kernel
theorem dX7_run_52 : decode cX7_run 52 = .ok (.iload_n 2, 1) := by decide +kernel
theorem dX7_run_53 : decode cX7_run 53 = .ok (.iadd, 1) := by decide +kernel
theorem dX7_run_54 : decode cX7_run 54 = .ok (.iaload, 1) := by decide +kernel
theorem dX7_run_55 : decode cX7_run 55 = .ok (.iconst 1, 1) := by decide +kernel
theorem dX7_run_56 : decode cX7_run 56 = .ok (.iadd, 1) := by decide +kernel
theorem dX7_run_57 : decode cX7_run 57 = .ok (.goto 4, 3) := by decide +kernel
theorem dX7_run_60 : decode cX7_run 60 = .ok (.iconst 0, 1) := by decide +kernel
theorem dX7_run_61 : decode cX7_run 61 = .ok (.iastore, 1) := by decide +kernel
theorem dX7_run_62 : decode cX7_run 62 = .ok (.aload_n 0, 1) := by decide +kernel
theorem dX7_run_63 : decode cX7_run 63 = .ok (.getfield 7, 3) := by decide +kernel
theorem dX7_run_66 : decode cX7_run 66 = .ok (.bipush 77, 2) := by decide +kernel
theorem dX7_run_68 : decode cX7_run 68 = .ok (.iload_n 2, 1) := by decide +kernel
theorem dX7_run_69 : decode cX7_run 69 = .ok (.iadd, 1) := by decide +kernel
theorem dX7_run_70 : decode cX7_run 70 = .ok (.iaload, 1) := by decide +kernel
theorem dX7_run_71 : decode cX7_run 71 = .ok (.aload_n 0, 1) := by decide +kernel
theorem dX7_run_72 : decode cX7_run 72 = .ok (.getfield 7, 3) := by decide +kernel
theorem dX7_run_75 : decode cX7_run 75 = .ok (.bipush 69, 2) := by decide +kernel
theorem dX7_run_77 : decode cX7_run 77 = .ok (.iload_n 2, 1) := by decide +kernel
theorem dX7_run_78 : decode cX7_run 78 = .ok (.iadd, 1) := by decide +kernel
theorem dX7_run_79 : decode cX7_run 79 = .ok (.iaload, 1) := by decide +kernel
theorem dX7_run_80 : decode cX7_run 80 = .ok (.if_icmp .lt 7, 3) := by decide +kernel
theorem dX7_run_83 : decode cX7_run 83 = .ok (.iload_n 2, 1) := by decide +kernel
theorem dX7_run_84 : decode cX7_run 84 = .ok (.goto 4, 3) := by decide +kernel
theorem dX7_run_87 : decode cX7_run 87 = .ok (.iload_n 1, 1) := by decide +kernel
theorem dX7_run_88 : decode cX7_run 88 = .ok (.istore_n 1, 1) := by decide +kernel
theorem dX7_run_89 : decode cX7_run 89 = .ok (.iinc 2 (-1), 3) := by decide +kernel
theorem dX7_run_92 : decode cX7_run 92 = .ok (.goto (-66), 3) := by decide +kernel
theorem dX7_run_95 : decode cX7_run 95 = .ok (.iload_n 1, 1) := by decide +kernel
theorem dX7_run_96 : decode cX7_run 96 = .ok (.iconst (-1), 1) := by decide +kernel
theorem dX7_run_97 : decode cX7_run 97 = .ok (.if_icmp .eq 11, 3) := by decide +kernel
theorem dX7_run_100 : decode cX7_run 100 = .ok (.aload_n 0, 1) := by decide +kernel
theorem dX7_run_101 : decode cX7_run 101 = .ok (.iload_n 1, 1) := by decide +kernel
theorem dX7_run_102 : decode cX7_run 102 = .ok (.invokevirtual 69, 3) := by decide +kernel
theorem dX7_run_105 : decode cX7_run 105 = .ok (.goto 36, 3) := by decide +kernel
theorem dX7_run_108 : decode cX7_run 108 = .ok (.aload_n 0, 1) := by decide +kernel
theorem dX7_run_109 : decode cX7_run 109 = .ok (.getfield 7, 3) := by decide +kernel
theorem dX7_run_112 : decode cX7_run 112 = .ok (.bipush 9, 2) := by decide +kernel
theorem dX7_run_114 : decode cX7_run 114 = .ok (.aload_n 0, 1) := by decide +kernel
theorem dX7_run_115 : decode cX7_run 115 = .ok (.getfield 7, 3) := by decide +kernel
theorem dX7_run_118 : decode cX7_run 118 = .ok (.bipush 9, 2) := by decide +kernel
theorem dX7_run_120 : decode cX7_run 120 = .ok (.iaload, 1) := by decide +kernel
theorem dX7_run_121 : decode cX7_run 121 = .ok (.aload_n 0, 1) := by decide +kernel
theorem dX7_run_122 : decode cX7_run 122 = .ok (.getfield 7, 3) := by decide +kernel
theorem dX7_run_125 : decode cX7_run 125 = .ok (.bipush 23, 2) := by decide +kernel
theorem dX7_run_127 : decode cX7_run 127 = .ok (.iaload, 1) := by decide +kernel
theorem dX7_run_128 : decode cX7_run 128 = .ok (.iadd, 1) := by decide +kernel
theorem dX7_run_129 : decode cX7_run 129 = .ok (.iconst 0, 1) := by decide +kernel
theorem dX7_run_130 : decode cX7_run 130 = .ok (.aload_n 0, 1) := by decide +kernel
theorem dX7_run_131 : decode cX7_run 131 = .ok (.getfield 7, 3) := by decide +kernel
theorem dX7_run_134 : decode cX7_run 134 = .ok (.bipush 21, 2) := by decide +kernel
theorem dX7_run_136 : decode cX7_run 136 = .ok (.iaload, 1) := by decide +kernel
theorem dX7_run_137 : decode cX7_run 137 = .ok (.invokestatic 61, 3) := by decide +kernel
theorem dX7_run_140 : decode cX7_run 140 = .ok (.iastore, 1) := by decide +kernel
theorem dX7_run_141 : decode cX7_run 141 = .ok (.return_, 1) := by decide +kernel
set_option maxRecDepth 20000 in
theorem ggX7_await_X7_in : GoodIn wsX7_await wsX7_in := goodIn_r _ [5] (by decide +kernel) (by decide +kernel)
set_option maxRecDepth 20000 in
theorem gX7_await_X7_in : GoodIn wsX7_await (va_wsS RX7 35 yX7_in wsX7_in) := goodIn_app (goodIn_of _ (by decide +kernel)) ggX7_await_X7_in
set_option maxRecDepth 20000 in
theorem ggX7_await_X7_hasLock : GoodIn wsX7_await wsX7_hasLock := goodIn_r _ [9, 1, 17, 18, 19, 20, 21, 22, 23] (by decide +kernel) (by decide +kernel)
set_option maxRecDepth 20000 in
theorem gX7_await_X7_hasLock : GoodIn wsX7_await (wsV RX7 65 RX7 yX7_hasLock wsX7_hasLock) := goodIn_app (goodIn_of _ (by decide +kernel)) ggX7_await_X7_hasLock
set_option maxRecDepth 20000 in
theorem ggX7_await_X7_limited : GoodIn wsX7_await wsX7_limited := goodIn_r _ [12] (by decide +kernel) (by decide +kernel)
set_option maxRecDepth 20000 in
theorem gX7_await_X7_limited : GoodIn wsX7_await (va_wsS RX7 61 yX7_limited wsX7_limited) := goodIn_app (goodIn_of _ (by decide +kernel)) ggX7_await_X7_limited
set_option maxRecDepth 20000 in
theorem ggX7_await_X7_note : GoodIn wsX7_await wsX7_note := goodIn_r _ [16, 1, 17, 18, 19, 20, 21, 22, 23] (by decide +kernel) (by decide +kernel)
set_option maxRecDepth 20000 in
theorem gX7_await_X7_note : GoodIn wsX7_await (wsV RX7 57 RX7 yX7_note wsX7_note) := goodIn_app (goodIn_of _ (by decide +kernel)) ggX7_await_X7_note
theorem dX7_await_0 : decode cX7_await 0 = .ok (.aload_n 0, 1) := by decide +kernel
theorem dX7_await_1 : decode cX7_await 1 = .ok (.getfield 7, 3) := by decide +kernel
theorem dX7_await_4 : decode cX7_await 4 = .ok (.iconst 1, 1) := by decide +kernel
theorem dX7_await_5 : decode cX7_await 5 = .ok (.iaload, 1) := by decide +kernel
theorem dX7_await_6 : decode cX7_await 6 = .ok (.aload_n 0, 1) := by decide +kernel
theorem dX7_await_7 : decode cX7_await 7 = .ok (.getfield 7, 3) := by decide +kernel
theorem dX7_await_10 : decode cX7_await 10 = .ok (.bipush 24, 2) := by decide +kernel
theorem dX7_await_12 : decode cX7_await 12 = .ok (.iaload, 1) := by decide +kernel
theorem dX7_await_13 : decode cX7_await 13 = .ok (.aload_n 0, 1) := by decide +kernel
theorem dX7_await_14 : decode cX7_await 14 = .ok (.getfield 7, 3) := by decide +kernel
theorem dX7_await_17 : decode cX7_await 17 = .ok (.bipush 25, 2) := by decide +kernel
theorem dX7_await_19 : decode cX7_await 19 = .ok (.iaload, 1) := by decide +kernel
theorem dX7_await_20 : decode cX7_await 20 = .ok (.invokestatic 35, 3) := by decide +kernel
theorem dX7_await_23 : decode cX7_await 23 = .ok (.ifCond .eq 33, 3) := by decide +kernel
theorem dX7_await_26 : decode cX7_await 26 = .ok (.aload_n 0, 1) := by decide +kernel
theorem dX7_await_27 : decode cX7_await 27 = .ok (.getfield 7, 3) := by decide +kernel
theorem dX7_await_30 : decode cX7_await 30 = .ok (.iconst 5, 1) := by decide +kernel
theorem dX7_await_31 : decode cX7_await 31 = .ok (.iaload, 1) := by decide +kernel
theorem dX7_await_32 : decode cX7_await 32 = .ok (.aload_n 0, 1) := by decide +kernel
theorem dX7_await_33 : decode cX7_await 33 = .ok (.getfield 7, 3) := by decide +kernel
theorem dX7_await_36 : decode cX7_await 36 = .ok (.bipush 26, 2) := by decide +kernel
theorem dX7_await_38 : decode cX7_await 38 = .ok (.iaload, 1) := by decide +kernel
theorem dX7_await_39 : decode cX7_await 39 = .ok (.aload_n 0, 1) := by decide +kernel
theorem dX7_await_40 : decode cX7_await 40 = .ok (.getfield 7, 3) := by decide +kernel
theorem dX7_await_43 : decode cX7_await 43 = .ok (.bipush 27, 2) := by decide +kernel
theorem dX7_await_45 : decode cX7_await 45 = .ok (.iaload, 1) := by decide +kernel
theorem dX7_await_46 : decode cX7_await 46 = .ok (.invokestatic 35, 3) := by decide +kernel
theorem dX7_await_49 : decode cX7_await 49 = .ok (.ifCond .eq 7, 3) := by decide +kernel
theorem dX7_await_52 : decode cX7_await 52 = .ok (.iconst 1, 1) := by decide +kernel
theorem dX7_await_53 : decode cX7_await 53 = .ok (.goto 4, 3) := by decide +kernel
theorem dX7_await_56 : decode cX7_await 56 = .ok (.iconst 0, 1) := by decide +kernel
theorem dX7_await_57 : decode cX7_await 57 = .ok (.istore_n 1, 1) := by decide +kernel
theorem dX7_await_58 : decode cX7_await 58 = .ok (.aload_n 0, 1) := by decide +kernel
theorem dX7_await_59 : decode cX7_await 59 = .ok (.getfield 7, 3) := by decide +kernel
theorem dX7_await_62 : decode cX7_await 62 = .ok (.bipush 8, 2) := by decide +kernel
theorem dX7_await_64 : decode cX7_await 64 = .ok (.iload_n 1, 1) := by decide +kernel
theorem dX7_await_65 : decode cX7_await 65 = .ok (.ifCond .eq 22, 3) := by decide +kernel
theorem dX7_await_68 : decode cX7_await 68 = .ok (.aload_n 0, 1) := by decide +kernel
theorem dX7_await_69 : decode cX7_await 69 = .ok (.invokevirtual 65, 3) := by decide +kernel
theorem dX7_await_72 : decode cX7_await 72 = .ok (.ifCond .eq 15, 3) := by decide +kernel
theorem dX7_await_75 : decode cX7_await 75 = .ok (.aload_n 0, 1) := by decide +kernel
theorem dX7_await_76 : decode cX7_await 76 = .ok (.getfield 7, 3) := by decide +kernel
theorem dX7_await_79 : decode cX7_await 79 = .ok (.bipush 8, 2) := by decide +kernel
theorem dX7_await_81 : decode cX7_await 81 = .ok (.iaload, 1) := by decide +kernel
theorem dX7_await_82 : decode cX7_await 82 = .ok (.iconst 1, 1) := by decide +kernel
theorem dX7_await_83 : decode cX7_await 83 = .ok (.iadd, 1) := by decide +kernel
theorem dX7_await_84 : decode cX7_await 84 = .ok (.goto 4, 3) := by decide +kernel
theorem dX7_await_87 : decode cX7_await 87 = .ok (.iconst 0, 1) := by decide +kernel
theorem dX7_await_88 : decode cX7_await 88 = .ok (.iastore, 1) := by decide +kernel
theorem dX7_await_89 : decode cX7_await 89 = .ok (.aload_n 0, 1) := by decide +kernel
theorem dX7_await_90 : decode cX7_await 90 = .ok (.getfield 7, 3) := by decide +kernel
theorem dX7_await_93 : decode cX7_await 93 = .ok (.bipush 8, 2) := by decide +kernel
theorem dX7_await_95 : decode cX7_await 95 = .ok (.iaload, 1) := by decide +kernel
theorem dX7_await_96 : decode cX7_await 96 = .ok (.aload_n 0, 1) := by decide +kernel
theorem dX7_await_97 : decode cX7_await 97 = .ok (.getfield 7, 3) := by decide +kernel
theorem dX7_await_100 : decode cX7_await 100 = .ok (.bipush 22, 2) := by decide +kernel
theorem dX7_await_102 : decode cX7_await 102 = .ok (.iaload, 1) := by decide +kernel
theorem dX7_await_103 : decode cX7_await 103 = .ok (.if_icmp .lt 71, 3) := by decide +kernel
theorem dX7_await_106 : decode cX7_await 106 = .ok (.aload_n 0, 1) := by decide +kernel
theorem dX7_await_107 : decode cX7_await 107 = .ok (.getfield 7, 3) := by decide +kernel
theorem dX7_await_110 : decode cX7_await 110 = .ok (.bipush 20, 2) := by decide +kernel
theorem dX7_await_112 : decode cX7_await 112 = .ok (.iconst 1, 1) := by decide +kernel
theorem dX7_await_113 : decode cX7_await 113 = .ok (.iastore, 1) := by decide +kernel
theorem dX7_await_114 : decode cX7_await 114 = .ok (.aload_n 0, 1) := by decide +kernel
theorem dX7_await_115 : decode cX7_await 115 = .ok (.getfield 7, 3) := by decide +kernel
theorem dX7_await_118 : decode cX7_await 118 = .ok (.bipush 9, 2) := by decide +kernel
theorem dX7_await_120 : decode cX7_await 120 = .ok (.aload_n 0, 1) := by decide +kernel
theorem dX7_await_121 : decode cX7_await 121 = .ok (.getfield 7, 3) := by decide +kernel
theorem dX7_await_124 : decode cX7_await 124 = .ok (.bipush 23, 2) := by decide +kernel
theorem dX7_await_126 : decode cX7_await 126 = .ok (.iaload, 1) := by decide +kernel
theorem dX7_await_127 : decode cX7_await 127 = .ok (.iconst 0, 1) := by decide +kernel
theorem dX7_await_128 : decode cX7_await 128 = .ok (.aload_n 0, 1) := by decide +kernel
theorem dX7_await_129 : decode cX7_await 129 = .ok (.getfield 7, 3) := by decide +kernel
theorem dX7_await_132 : decode cX7_await 132 = .ok (.bipush 21, 2) := by decide +kernel
theorem dX7_await_134 : decode cX7_await 134 = .ok (.iaload, 1) := by decide +kernel
theorem dX7_await_135 : decode cX7_await 135 = .ok (.invokestatic 61, 3) := by decide +kernel
theorem dX7_await_138 : decode cX7_await 138 = .ok (.iastore, 1) := by decide +kernel
theorem dX7_await_139 : decode cX7_await 139 = .ok (.iconst 0, 1) := by decide +kernel
theorem dX7_await_140 : decode cX7_await 140 = .ok (.istore_n 2, 1) := by decide +kernel
theorem dX7_await_141 : decode cX7_await 141 = .ok (.iload_n 2, 1) := by decide +kernel
theorem dX7_await_142 : decode cX7_await 142 = .ok (.aload_n 0, 1) := by decide +kernel
theorem dX7_await_143 : decode cX7_await 143 = .ok (.getfield 7, 3) := by decide +kernel
theorem dX7_await_146 : decode cX7_await 146 = .ok (.bipush 30, 2) := by decide +kernel
theorem dX7_await_148 : decode cX7_await 148 = .ok (.iaload, 1) := by decide +kernel
theorem dX7_await_149 : decode cX7_await 149 = .ok (.if_icmp .ge 19, 3) := by decide +kernel
theorem dX7_await_152 : decode cX7_await 152 = .ok (.aload_n 0, 1) := by decide +kernel
theorem dX7_await_153 : decode cX7_await 153 = .ok (.getfield 7, 3) := by decide +kernel
theorem dX7_await_156 : decode cX7_await 156 = .ok (.bipush 77, 2) := by decide +kernel
theorem dX7_await_158 : decode cX7_await 158 = .ok (.iload_n 2, 1) := by decide +kernel
theorem dX7_await_159 : decode cX7_await 159 = .ok (.iadd, 1) := by decide +kernel
theorem dX7_await_160 : decode cX7_await 160 = .ok (.iconst 0, 1) := by decide +kernel
theorem dX7_await_161 : decode cX7_await 161 = .ok (.iastore, 1) := by decide +kernel
theorem dX7_await_162 : decode cX7_await 162 = .ok (.iinc 2 1, 3) := by decide +kernel
theorem dX7_await_165 : decode cX7_await 165 = .ok (.goto (-24), 3) := by decide +kernel
theorem dX7_await_168 : decode cX7_await 168 = .ok (.aload_n 0, 1) := by decide +kernel
theorem dX7_await_169 : decode cX7_await 169 = .ok (.bipush 100, 2) := by decide +kernel
theorem dX7_await_171 : decode cX7_await 171 = .ok (.invokevirtual 57, 3) := by decide +kernel
theorem dX7_await_174 : decode cX7_await 174 = .ok (.return_, 1) := by decide +kernel
set_option maxRecDepth 20000 in
theorem ggX7_tick_X7_feedLine : GoodIn wsX7_tick wsX7_feedLine := goodIn_r _ [6, 1, 7, 8, 9, 10, 11, 5, 12, 13, 14, 15, 16, 49, 50, 51, 52, 53, 54, 55] (by decide +kernel) (by decide +kernel)
set_option maxRecDepth 20000 in
theorem gX7_tick_X7_feedLine : GoodIn wsX7_tick (wsV RX7 76 RX7 yX7_feedLine wsX7_feedLine) := goodIn_app (goodIn_of _ (by decide +kernel)) ggX7_tick_X7_feedLine
set_option maxRecDepth 20000 in
theorem ggX7_tick_X7_follow : GoodIn wsX7_tick wsX7_follow := goodIn_r _ [20, 1, 21, 16, 8, 9, 13, 14, 5, 15, 10, 11, 12, 22, 23, 24, 49, 50, 51, 52, 53, 54, 55] (by decide +kernel) (by decide +kernel)
set_option maxRecDepth 20000 in
theorem gX7_tick_X7_follow : GoodIn wsX7_tick (wsV RX7 79 RX7 yX7_follow wsX7_follow) := goodIn_app (goodIn_of _ (by decide +kernel)) ggX7_tick_X7_follow
set_option maxRecDepth 20000 in
theorem ggX7_tick_X7_run : GoodIn wsX7_tick wsX7_run := goodIn_r _ [28, 1, 29, 30, 31, 5, 32, 33, 34, 35, 36, 37, 38, 39, 40, 41, 42, 43, 44, 10, 11, 12, 49, 50, 51, 52, 53, 54, 55] (by decide +kernel) (by decide +kernel)
set_option maxRecDepth 20000 in
theorem gX7_tick_X7_run : GoodIn wsX7_tick (wsV RX7 82 RX7 yX7_run wsX7_run) := goodIn_app (goodIn_of _ (by decide +kernel)) ggX7_tick_X7_run
set_option maxRecDepth 20000 in
theorem ggX7_tick_X7_await : GoodIn wsX7_tick wsX7_await := goodIn_r _ [48, 1, 22, 23, 5, 24, 29, 30, 31, 32, 10, 11, 12, 37, 38, 39, 40, 49, 50, 51, 52, 53, 54, 55] (by decide +kernel) (by decide +kernel)
set_option maxRecDepth 20000 in
theorem gX7_tick_X7_await : GoodIn wsX7_tick (wsV RX7 85 RX7 yX7_await wsX7_await) := goodIn_app (goodIn_of _ (by decide +kernel)) ggX7_tick_X7_await
theorem dX7_tick_0 : decode cX7_tick 0 = .ok (.aload_n 0, 1) := by decide +kernel
theorem dX7_tick_1 : decode cX7_tick 1 = .ok (.getfield 7, 3) := by decide +kernel
theorem dX7_tick_4 : decode cX7_tick 4 = .ok (.iconst 0, 1) := by decide +kernel
theorem dX7_tick_5 : decode cX7_tick 5 = .ok (.dup2, 1) := by decide +kernel
theorem dX7_tick_6 : decode cX7_tick 6 = .ok (.iaload, 1) := by decide +kernel
theorem dX7_tick_7 : decode cX7_tick 7 = .ok (.iconst 1, 1) := by decide +kernel
theorem dX7_tick_8 : decode cX7_tick 8 = .ok (.iadd, 1) := by decide +kernel
theorem dX7_tick_9 : decode cX7_tick 9 = .ok (.iastore, 1) := by decide +kernel
theorem dX7_tick_10 : decode cX7_tick 10 = .ok (.aload_n 0, 1) := by decide +kernel
theorem dX7_tick_11 : decode cX7_tick 11 = .ok (.invokevirtual 76, 3) := by decide +kernel
theorem dX7_tick_14 : decode cX7_tick 14 = .ok (.aload_n 0, 1) := by decide +kernel
theorem dX7_tick_15 : decode cX7_tick 15 = .ok (.invokevirtual 79, 3) := by decide +kernel
theorem dX7_tick_18 : decode cX7_tick 18 = .ok (.aload_n 0, 1) := by decide +kernel
theorem dX7_tick_19 : decode cX7_tick 19 = .ok (.getfield 7, 3) := by decide +kernel
theorem dX7_tick_22 : decode cX7_tick 22 = .ok (.bipush 20, 2) := by decide +kernel
theorem dX7_tick_24 : decode cX7_tick 24 = .ok (.iaload, 1) := by decide +kernel
theorem dX7_tick_25 : decode cX7_tick 25 = .ok (.iconst 1, 1) := by decide +kernel
theorem dX7_tick_26 : decode cX7_tick 26 = .ok (.if_icmp .ne 10, 3) := by decide +kernel
theorem dX7_tick_29 : decode cX7_tick 29 = .ok (.aload_n 0, 1) := by decide +kernel
theorem dX7_tick_30 : decode cX7_tick 30 = .ok (.invokevirtual 82, 3) := by decide +kernel
theorem dX7_tick_33 : decode cX7_tick 33 = .ok (.goto 17, 3) := by decide +kernel
theorem dX7_tick_36 : decode cX7_tick 36 = .ok (.aload_n 0, 1) := by decide +kernel
theorem dX7_tick_37 : decode cX7_tick 37 = .ok (.getfield 7, 3) := by decide +kernel
theorem dX7_tick_40 : decode cX7_tick 40 = .ok (.bipush 20, 2) := by decide +kernel
theorem dX7_tick_42 : decode cX7_tick 42 = .ok (.iaload, 1) := by decide +kernel
theorem dX7_tick_43 : decode cX7_tick 43 = .ok (.ifCond .ne 7, 3) := by decide +kernel
theorem dX7_tick_46 : decode cX7_tick 46 = .ok (.aload_n 0, 1) := by decide +kernel
theorem dX7_tick_47 : decode cX7_tick 47 = .ok (.invokevirtual 85, 3) := by decide +kernel
theorem dX7_tick_50 : decode cX7_tick 50 = .ok (.aload_n 0, 1) := by decide +kernel
theorem dX7_tick_51 : decode cX7_tick 51 = .ok (.getfield 7, 3) := by decide +kernel
theorem dX7_tick_54 : decode cX7_tick 54 = .ok (.bipush 33, 2) := by decide +kernel
theorem dX7_tick_56 : decode cX7_tick 56 = .ok (.aload_n 0, 1) := by decide +kernel
theorem dX7_tick_57 : decode cX7_tick 57 = .ok (.getfield 7, 3) := by decide +kernel
theorem dX7_tick_60 : decode cX7_tick 60 = .ok (.iconst 0, 1) := by decide +kernel
theorem dX7_tick_61 : decode cX7_tick 61 = .ok (.iaload, 1) := by decide +kernel
theorem dX7_tick_62 : decode cX7_tick 62 = .ok (.bipush 20, 2) := by decide +kernel
theorem dX7_tick_64 : decode cX7_tick 64 = .ok (.irem, 1) := by decide +kernel
theorem dX7_tick_65 : decode cX7_tick 65 = .ok (.iadd, 1) := by decide +kernel
theorem dX7_tick_66 : decode cX7_tick 66 = .ok (.aload_n 0, 1) := by decide +kernel
theorem dX7_tick_67 : decode cX7_tick 67 = .ok (.getfield 7, 3) := by decide +kernel
theorem dX7_tick_70 : decode cX7_tick 70 = .ok (.iconst 5, 1) := by decide +kernel
theorem dX7_tick_71 : decode cX7_tick 71 = .ok (.iaload, 1) := by decide +kernel
theorem dX7_tick_72 : decode cX7_tick 72 = .ok (.iastore, 1) := by decide +kernel
theorem dX7_tick_73 : decode cX7_tick 73 = .ok (.aload_n 0, 1) := by decide +kernel
theorem dX7_tick_74 : decode cX7_tick 74 = .ok (.getfield 7, 3) := by decide +kernel
theorem dX7_tick_77 : decode cX7_tick 77 = .ok (.bipush 31, 2) := by decide +kernel
theorem dX7_tick_79 : decode cX7_tick 79 = .ok (.dup2, 1) := by decide +kernel
theorem dX7_tick_80 : decode cX7_tick 80 = .ok (.iaload, 1) := by decide +kernel
theorem dX7_tick_81 : decode cX7_tick 81 = .ok (.aload_n 0, 1) := by decide +kernel
theorem dX7_tick_82 : decode cX7_tick 82 = .ok (.getfield 7, 3) := by decide +kernel
theorem dX7_tick_85 : decode cX7_tick 85 = .ok (.bipush 20, 2) := by decide +kernel
theorem dX7_tick_87 : decode cX7_tick 87 = .ok (.iaload, 1) := by decide +kernel
theorem dX7_tick_88 : decode cX7_tick 88 = .ok (.iconst 1, 1) := by decide +kernel
theorem dX7_tick_89 : decode cX7_tick 89 = .ok (.if_icmp .ne 7, 3) := by decide +kernel
theorem dX7_tick_92 : decode cX7_tick 92 = .ok (.iconst 1, 1) := by decide +kernel
theorem dX7_tick_93 : decode cX7_tick 93 = .ok (.goto 4, 3) := by decide +kernel
theorem dX7_tick_96 : decode cX7_tick 96 = .ok (.iconst 0, 1) := by decide +kernel
theorem dX7_tick_97 : decode cX7_tick 97 = .ok (.iadd, 1) := by decide +kernel
theorem dX7_tick_98 : decode cX7_tick 98 = .ok (.iastore, 1) := by decide +kernel
theorem dX7_tick_99 : decode cX7_tick 99 = .ok (.return_, 1) := by decide +kernel
set_option maxRecDepth 20000 in
theorem ggX7_advance_X7_in : GoodIn wsX7_advance wsX7_in := goodIn_r _ [7] (by decide +kernel) (by decide +kernel)
set_option maxRecDepth 20000 in
theorem gX7_advance_X7_in : GoodIn wsX7_advance (va_wsS RX7 35 yX7_in wsX7_in) := goodIn_app (goodIn_of _ (by decide +kernel)) ggX7_advance_X7_in
set_option maxRecDepth 20000 in
theorem ggX7_advance_X7_tick : GoodIn wsX7_advance wsX7_tick := goodIn_r _ [11, 3, 12, 13, 14, 6, 15, 16, 17, 18, 19, 20, 21, 22, 23, 24, 25, 26, 27, 28, 29, 30, 4, 5, 7, 31, 32, 33, 34, 35, 36, 37, 38, 39, 40, 41, 42, 43, 44, 45, 46, 47, 48, 49, 50, 51, 52, 53, 54, 55, 56, 57, 58, 59, 60, 61] (by decide +kernel) (by decide +kernel)
set_option maxRecDepth 20000 in
theorem gX7_advance_X7_tick : GoodIn wsX7_advance (wsV RX7 88 RX7 yX7_tick wsX7_tick) := goodIn_app (goodIn_of _ (by decide +kernel)) ggX7_advance_X7_tick
theorem dX7_advance_0 : decode cX7_advance 0 = .ok (.aload_n 0, 1) := by decide +kernel
theorem dX7_advance_1 : decode cX7_advance 1 = .ok (.iload_n 1, 1) := by decide +kernel
theorem dX7_advance_2 : decode cX7_advance 2 = .ok (.iconst 1, 1) := by decide +kernel
theorem dX7_advance_3 : decode cX7_advance 3 = .ok (.sipush 2000, 3) := by decide +kernel
theorem dX7_advance_6 : decode cX7_advance 6 = .ok (.invokestatic 35, 3) := by decide +kernel
theorem dX7_advance_9 : decode cX7_advance 9 = .ok (.ifCond .eq 7, 3) := by decide +kernel
theorem dX7_advance_12 : decode cX7_advance 12 = .ok (.iconst 0, 1) := by decide +kernel
theorem dX7_advance_13 : decode cX7_advance 13 = .ok (.goto 4, 3) := by decide +kernel
theorem dX7_advance_16 : decode cX7_advance 16 = .ok (.iconst 1, 1) := by decide +kernel
theorem dX7_advance_17 : decode cX7_advance 17 = .ok (.putfield 30, 3) := by decide +kernel
theorem dX7_advance_20 : decode cX7_advance 20 = .ok (.iconst 0, 1) := by decide +kernel
theorem dX7_advance_21 : decode cX7_advance 21 = .ok (.istore_n 2, 1) := by decide +kernel
theorem dX7_advance_22 : decode cX7_advance 22 = .ok (.iload_n 2, 1) := by decide +kernel
theorem dX7_advance_23 : decode cX7_advance 23 = .ok (.iload_n 1, 1) := by decide +kernel
theorem dX7_advance_24 : decode cX7_advance 24 = .ok (.if_icmp .ge 37, 3) := by decide +kernel
theorem dX7_advance_27 : decode cX7_advance 27 = .ok (.aload_n 0, 1) := by decide +kernel
theorem dX7_advance_28 : decode cX7_advance 28 = .ok (.getfield 30, 3) := by decide +kernel
theorem dX7_advance_31 : decode cX7_advance 31 = .ok (.ifCond .ne 30, 3) := by decide +kernel
theorem dX7_advance_34 : decode cX7_advance 34 = .ok (.aload_n 0, 1) := by decide +kernel
theorem dX7_advance_35 : decode cX7_advance 35 = .ok (.invokevirtual 88, 3) := by decide +kernel
theorem dX7_advance_38 : decode cX7_advance 38 = .ok (.aload_n 0, 1) := by decide +kernel
theorem dX7_advance_39 : decode cX7_advance 39 = .ok (.dup, 1) := by decide +kernel
theorem dX7_advance_40 : decode cX7_advance 40 = .ok (.getfield 91, 3) := by decide +kernel
theorem dX7_advance_43 : decode cX7_advance 43 = .ok (.aload_n 0, 1) := by decide +kernel
theorem dX7_advance_44 : decode cX7_advance 44 = .ok (.getfield 7, 3) := by decide +kernel
theorem dX7_advance_47 : decode cX7_advance 47 = .ok (.bipush 9, 2) := by decide +kernel
theorem dX7_advance_49 : decode cX7_advance 49 = .ok (.iaload, 1) := by decide +kernel
theorem dX7_advance_50 : decode cX7_advance 50 = .ok (.i2l, 1) := by decide +kernel
theorem dX7_advance_51 : decode cX7_advance 51 = .ok (.ladd, 1) := by decide +kernel
theorem dX7_advance_52 : decode cX7_advance 52 = .ok (.putfield 91, 3) := by decide +kernel
theorem dX7_advance_55 : decode cX7_advance 55 = .ok (.iinc 2 1, 3) := by decide +kernel
theorem dX7_advance_58 : decode cX7_advance 58 = .ok (.goto (-36), 3) := by decide +kernel
theorem dX7_advance_61 : decode cX7_advance 61 = .ok (.aload_n 0, 1) := by decide +kernel
theorem dX7_advance_62 : decode cX7_advance 62 = .ok (.getfield 30, 3) := by decide +kernel
theorem dX7_advance_65 : decode cX7_advance 65 = .ok (.ifCond .eq 7, 3) := by decide +kernel
theorem dX7_advance_68 : decode cX7_advance 68 = .ok (.iconst 0, 1) := by decide +kernel
theorem dX7_advance_69 : decode cX7_advance 69 = .ok (.goto 9, 3) := by decide +kernel
theorem dX7_advance_72 : decode cX7_advance 72 = .ok (.aload_n 0, 1) := by decide +kernel
theorem dX7_advance_73 : decode cX7_advance 73 = .ok (.getfield 7, 3) := by decide +kernel
theorem dX7_advance_76 : decode cX7_advance 76 = .ok (.iconst 0, 1) := by decide +kernel
theorem dX7_advance_77 : decode cX7_advance 77 = .ok (.iaload, 1) := by decide +kernel
theorem dX7_advance_78 : decode cX7_advance 78 = .ok (.ireturn, 1) := by decide +kernel
theorem dX7_state_0 : decode cX7_state 0 = .ok (.aload_n 0, 1) := by decide +kernel
theorem dX7_state_1 : decode cX7_state 1 = .ok (.iconst 0, 1) := by decide +kernel
theorem dX7_state_2 : decode cX7_state 2 = .ok (.putfield 30, 3) := by decide +kernel
theorem dX7_state_5 : decode cX7_state 5 = .ok (.aload_n 0, 1) := by decide +kernel
theorem dX7_state_6 : decode cX7_state 6 = .ok (.getfield 7, 3) := by decide +kernel
theorem dX7_state_9 : decode cX7_state 9 = .ok (.bipush 20, 2) := by decide +kernel
theorem dX7_state_11 : decode cX7_state 11 = .ok (.iaload, 1) := by decide +kernel
theorem dX7_state_12 : decode cX7_state 12 = .ok (.ireturn, 1) := by decide +kernel
set_option maxRecDepth 20000 in
theorem ggX7_isLocked_X7_hasLock : GoodIn wsX7_isLocked wsX7_hasLock := goodIn_r _ [6, 7, 8, 9, 10, 11, 12, 13, 14] (by decide +kernel) (by decide +kernel)
set_option maxRecDepth 20000 in
theorem gX7_isLocked_X7_hasLock : GoodIn wsX7_isLocked (wsV RX7 65 RX7 yX7_hasLock wsX7_hasLock) := goodIn_app (goodIn_of _ (by decide +kernel)) ggX7_isLocked_X7_hasLock
theorem dX7_isLocked_0 : decode cX7_isLocked 0 = .ok (.aload_n 0, 1) := by decide +kernel
theorem dX7_isLocked_1 : decode cX7_isLocked 1 = .ok (.iconst 0, 1) := by decide +kernel
theorem dX7_isLocked_2 : decode cX7_isLocked 2 = .ok (.putfield 30, 3) := by decide +kernel
theorem dX7_isLocked_5 : decode cX7_isLocked 5 = .ok (.aload_n 0, 1) := by decide +kernel
theorem dX7_isLocked_6 : decode cX7_isLocked 6 = .ok (.invokevirtual 65, 3) := by decide +kernel
theorem dX7_isLocked_9 : decode cX7_isLocked 9 = .ok (.ireturn, 1) := by decide +kernel
set_option maxRecDepth 20000 in
theorem ggX7_measure_X7_in : GoodIn wsX7_measure wsX7_in := goodIn_r _ [6] (by decide +kernel) (by decide +kernel)
set_option maxRecDepth 20000 in
theorem gX7_measure_X7_in : GoodIn wsX7_measure (va_wsS RX7 35 yX7_in wsX7_in) := goodIn_app (goodIn_of _ (by decide +kernel)) ggX7_measure_X7_in
theorem dX7_measure_0 : decode cX7_measure 0 = .ok (.aload_n 0, 1) := by decide +kernel
theorem dX7_measure_1 : decode cX7_measure 1 = .ok (.iload_n 1, 1) := by decide +kernel
theorem dX7_measure_2 : decode cX7_measure 2 = .ok (.iconst 0, 1) := by decide +kernel
theorem dX7_measure_3 : decode cX7_measure 3 = .ok (.bipush 9, 2) := by decide +kernel
theorem dX7_measure_5 : decode cX7_measure 5 = .ok (.invokestatic 35, 3) := by decide +kernel
theorem dX7_measure_8 : decode cX7_measure 8 = .ok (.ifCond .eq 7, 3) := by decide +kernel
theorem dX7_measure_11 : decode cX7_measure 11 = .ok (.iconst 0, 1) := by decide +kernel
theorem dX7_measure_12 : decode cX7_measure 12 = .ok (.goto 4, 3) := by decide +kernel
theorem dX7_measure_15 : decode cX7_measure 15 = .ok (.iconst 1, 1) := by decide +kernel
theorem dX7_measure_16 : decode cX7_measure 16 = .ok (.putfield 30, 3) := by decide +kernel
theorem dX7_measure_19 : decode cX7_measure 19 = .ok (.aload_n 0, 1) := by decide +kernel
theorem dX7_measure_20 : decode cX7_measure 20 = .ok (.getfield 30, 3) := by decide +kernel
theorem dX7_measure_23 : decode cX7_measure 23 = .ok (.ifCond .eq 7, 3) := by decide +kernel
theorem dX7_measure_26 : decode cX7_measure 26 = .ok (.iconst 0, 1) := by decide +kernel
theorem dX7_measure_27 : decode cX7_measure 27 = .ok (.goto 9, 3) := by decide +kernel
theorem dX7_measure_30 : decode cX7_measure 30 = .ok (.aload_n 0, 1) := by decide +kernel
theorem dX7_measure_31 : decode cX7_measure 31 = .ok (.getfield 7, 3) := by decide +kernel
theorem dX7_measure_34 : decode cX7_measure 34 = .ok (.iload_n 1, 1) := by decide +kernel
theorem dX7_measure_35 : decode cX7_measure 35 = .ok (.iaload, 1) := by decide +kernel
theorem dX7_measure_36 : decode cX7_measure 36 = .ok (.ireturn, 1) := by decide +kernel
set_option maxRecDepth 20000 in
theorem ggX7_violations_X7_in : GoodIn wsX7_violations wsX7_in := goodIn_r _ [6] (by decide +kernel) (by decide +kernel)
set_option maxRecDepth 20000 in
theorem gX7_violations_X7_in : GoodIn wsX7_violations (va_wsS RX7 35 yX7_in wsX7_in) := goodIn_app (goodIn_of _ (by decide +kernel)) ggX7_violations_X7_in
theorem dX7_violations_0 : decode cX7_violations 0 = .ok (.aload_n 0, 1) := by decide +kernel
theorem dX7_violations_1 : decode cX7_violations 1 = .ok (.iload_n 1, 1) := by decide +kernel
theorem dX7_violations_2 : decode cX7_violations 2 = .ok (.iconst 0, 1) := by decide +kernel
theorem dX7_violations_3 : decode cX7_violations 3 = .ok (.aload_n 0, 1) := by decide +kernel
theorem dX7_violations_4 : decode cX7_violations 4 = .ok (.getfield 7, 3) := by decide +kernel
theorem dX7_violations_7 : decode cX7_violations 7 = .ok (.bipush 30, 2) := by decide +kernel
theorem dX7_violations_9 : decode cX7_violations 9 = .ok (.iaload, 1) := by decide +kernel
theorem dX7_violations_10 : decode cX7_violations 10 = .ok (.iconst 1, 1) := by decide +kernel
theorem dX7_violations_11 : decode cX7_violations 11 = .ok (.isub, 1) := by decide +kernel
theorem dX7_violations_12 : decode cX7_violations 12 = .ok (.invokestatic 35, 3) := by decide +kernel
theorem dX7_violations_15 : decode cX7_violations 15 = .ok (.ifCond .eq 7, 3) := by decide +kernel
theorem dX7_violations_18 : decode cX7_violations 18 = .ok (.iconst 0, 1) := by decide +kernel
theorem dX7_violations_19 : decode cX7_violations 19 = .ok (.goto 4, 3) := by decide +kernel
theorem dX7_violations_22 : decode cX7_violations 22 = .ok (.iconst 1, 1) := by decide +kernel
theorem dX7_violations_23 : decode cX7_violations 23 = .ok (.putfield 30, 3) := by decide +kernel
theorem dX7_violations_26 : decode cX7_violations 26 = .ok (.aload_n 0, 1) := by decide +kernel
theorem dX7_violations_27 : decode cX7_violations 27 = .ok (.getfield 30, 3) := by decide +kernel
theorem dX7_violations_30 : decode cX7_violations 30 = .ok (.ifCond .eq 7, 3) := by decide +kernel
theorem dX7_violations_33 : decode cX7_violations 33 = .ok (.iconst 0, 1) := by decide +kernel
theorem dX7_violations_34 : decode cX7_violations 34 = .ok (.goto 12, 3) := by decide +kernel
theorem dX7_violations_37 : decode cX7_violations 37 = .ok (.aload_n 0, 1) := by decide +kernel
theorem dX7_violations_38 : decode cX7_violations 38 = .ok (.getfield 7, 3) := by decide +kernel
theorem dX7_violations_41 : decode cX7_violations 41 = .ok (.bipush 77, 2) := by decide +kernel
theorem dX7_violations_43 : decode cX7_violations 43 = .ok (.iload_n 1, 1) := by decide +kernel
theorem dX7_violations_44 : decode cX7_violations 44 = .ok (.iadd, 1) := by decide +kernel
theorem dX7_violations_45 : decode cX7_violations 45 = .ok (.iaload, 1) := by decide +kernel
theorem dX7_violations_46 : decode cX7_violations 46 = .ok (.ireturn, 1) := by decide +kernel
theorem dX7_energy_0 : decode cX7_energy 0 = .ok (.aload_n 0, 1) := by decide +kernel
theorem dX7_energy_1 : decode cX7_energy 1 = .ok (.iconst 0, 1) := by decide +kernel
theorem dX7_energy_2 : decode cX7_energy 2 = .ok (.putfield 30, 3) := by decide +kernel
theorem dX7_energy_5 : decode cX7_energy 5 = .ok (.aload_n 0, 1) := by decide +kernel
theorem dX7_energy_6 : decode cX7_energy 6 = .ok (.getfield 91, 3) := by decide +kernel
theorem dX7_energy_9 : decode cX7_energy 9 = .ok (.lreturn, 1) := by decide +kernel
theorem dX7_availability_0 : decode cX7_availability 0 = .ok (.aload_n 0, 1) := by decide +kernel
theorem dX7_availability_1 : decode cX7_availability 1 = .ok (.iconst 0, 1) := by decide +kernel
theorem dX7_availability_2 : decode cX7_availability 2 = .ok (.putfield 30, 3) := by decide +kernel
theorem dX7_availability_5 : decode cX7_availability 5 = .ok (.aload_n 0, 1) := by decide +kernel
theorem dX7_availability_6 : decode cX7_availability 6 = .ok (.getfield 7, 3) := by decide +kernel
theorem dX7_availability_9 : decode cX7_availability 9 = .ok (.iconst 0, 1) := by decide +kernel
theorem dX7_availability_10 : decode cX7_availability 10 = .ok (.iaload, 1) := by decide +kernel
theorem dX7_availability_11 : decode cX7_availability 11 = .ok (.ifCond .ne 7, 3) := by decide +kernel
theorem dX7_availability_14 : decode cX7_availability 14 = .ok (.dconst 0, 1) := by decide +kernel
theorem dX7_availability_15 : decode cX7_availability 15 = .ok (.goto 19, 3) := by decide +kernel
theorem dX7_availability_18 : decode cX7_availability 18 = .ok (.aload_n 0, 1) := by decide +kernel
theorem dX7_availability_19 : decode cX7_availability 19 = .ok (.getfield 7, 3) := by decide +kernel
theorem dX7_availability_22 : decode cX7_availability 22 = .ok (.bipush 31, 2) := by decide +kernel
theorem dX7_availability_24 : decode cX7_availability 24 = .ok (.iaload, 1) := by decide +kernel
theorem dX7_availability_25 : decode cX7_availability 25 = .ok (.i2d, 1) := by decide +kernel
theorem dX7_availability_26 : decode cX7_availability 26 = .ok (.aload_n 0, 1) := by decide +kernel
theorem dX7_availability_27 : decode cX7_availability 27 = .ok (.getfield 7, 3) := by decide +kernel
theorem dX7_availability_30 : decode cX7_availability 30 = .ok (.iconst 0, 1) := by decide +kernel
theorem dX7_availability_31 : decode cX7_availability 31 = .ok (.iaload, 1) := by decide +kernel
theorem dX7_availability_32 : decode cX7_availability 32 = .ok (.i2d, 1) := by decide +kernel
theorem dX7_availability_33 : decode cX7_availability 33 = .ok (.ddiv, 1) := by decide +kernel
theorem dX7_availability_34 : decode cX7_availability 34 = .ok (.dreturn, 1) := by decide +kernel
theorem dX7_events_0 : decode cX7_events 0 = .ok (.aload_n 0, 1) := by decide +kernel
theorem dX7_events_1 : decode cX7_events 1 = .ok (.iconst 0, 1) := by decide +kernel
theorem dX7_events_2 : decode cX7_events 2 = .ok (.putfield 30, 3) := by decide +kernel
theorem dX7_events_5 : decode cX7_events 5 = .ok (.aload_n 0, 1) := by decide +kernel
theorem dX7_events_6 : decode cX7_events 6 = .ok (.getfield 7, 3) := by decide +kernel
theorem dX7_events_9 : decode cX7_events 9 = .ok (.bipush 32, 2) := by decide +kernel
theorem dX7_events_11 : decode cX7_events 11 = .ok (.iaload, 1) := by decide +kernel
theorem dX7_events_12 : decode cX7_events 12 = .ok (.ireturn, 1) := by decide +kernel
set_option maxRecDepth 20000 in
theorem ggX7_event_X7_in : GoodIn wsX7_event wsX7_in := goodIn_r _ [6] (by decide +kernel) (by decide +kernel)
set_option maxRecDepth 20000 in
theorem gX7_event_X7_in : GoodIn wsX7_event (va_wsS RX7 35 yX7_in wsX7_in) := goodIn_app (goodIn_of _ (by decide +kernel)) ggX7_event_X7_in
theorem dX7_event_0 : decode cX7_event 0 = .ok (.aload_n 0, 1) := by decide +kernel
theorem dX7_event_1 : decode cX7_event 1 = .ok (.iload_n 2, 1) := by decide +kernel
theorem dX7_event_2 : decode cX7_event 2 = .ok (.iconst 0, 1) := by decide +kernel
theorem dX7_event_3 : decode cX7_event 3 = .ok (.iconst 1, 1) := by decide +kernel
theorem dX7_event_4 : decode cX7_event 4 = .ok (.invokestatic 35, 3) := by decide +kernel
theorem dX7_event_7 : decode cX7_event 7 = .ok (.ifCond .eq 7, 3) := by decide +kernel
theorem dX7_event_10 : decode cX7_event 10 = .ok (.iconst 0, 1) := by decide +kernel
theorem dX7_event_11 : decode cX7_event 11 = .ok (.goto 4, 3) := by decide +kernel
theorem dX7_event_14 : decode cX7_event 14 = .ok (.iconst 1, 1) := by decide +kernel
theorem dX7_event_15 : decode cX7_event 15 = .ok (.putfield 30, 3) := by decide +kernel
theorem dX7_event_18 : decode cX7_event 18 = .ok (.aload_n 0, 1) := by decide +kernel
theorem dX7_event_19 : decode cX7_event 19 = .ok (.getfield 30, 3) := by decide +kernel
theorem dX7_event_22 : decode cX7_event 22 = .ok (.ifCond .eq 5, 3) := by decide +kernel
theorem dX7_event_25 : decode cX7_event 25 = .ok (.iconst 0, 1) := by decide +kernel
theorem dX7_event_26 : decode cX7_event 26 = .ok (.ireturn, 1) := by decide +kernel
theorem dX7_event_27 : decode cX7_event 27 = .ok (.iload_n 1, 1) := by decide +kernel
theorem dX7_event_28 : decode cX7_event 28 = .ok (.iconst 0, 1) := by decide +kernel
theorem dX7_event_29 : decode cX7_event 29 = .ok (.aload_n 0, 1) := by decide +kernel
theorem dX7_event_30 : decode cX7_event 30 = .ok (.getfield 7, 3) := by decide +kernel
theorem dX7_event_33 : decode cX7_event 33 = .ok (.bipush 32, 2) := by decide +kernel
theorem dX7_event_35 : decode cX7_event 35 = .ok (.iaload, 1) := by decide +kernel
theorem dX7_event_36 : decode cX7_event 36 = .ok (.iconst 1, 1) := by decide +kernel
theorem dX7_event_37 : decode cX7_event 37 = .ok (.isub, 1) := by decide +kernel
theorem dX7_event_38 : decode cX7_event 38 = .ok (.invokestatic 35, 3) := by decide +kernel
theorem dX7_event_41 : decode cX7_event 41 = .ok (.ifCond .eq 17, 3) := by decide +kernel
theorem dX7_event_44 : decode cX7_event 44 = .ok (.iload_n 1, 1) := by decide +kernel
theorem dX7_event_45 : decode cX7_event 45 = .ok (.aload_n 0, 1) := by decide +kernel
theorem dX7_event_46 : decode cX7_event 46 = .ok (.getfield 7, 3) := by decide +kernel
theorem dX7_event_49 : decode cX7_event 49 = .ok (.bipush 32, 2) := by decide +kernel
theorem dX7_event_51 : decode cX7_event 51 = .ok (.iaload, 1) := by decide +kernel
theorem dX7_event_52 : decode cX7_event 52 = .ok (.bipush 40, 2) := by decide +kernel
theorem dX7_event_54 : decode cX7_event 54 = .ok (.isub, 1) := by decide +kernel
theorem dX7_event_55 : decode cX7_event 55 = .ok (.if_icmp .ge 5, 3) := by decide +kernel
theorem dX7_event_58 : decode cX7_event 58 = .ok (.iconst (-1), 1) := by decide +kernel
theorem dX7_event_59 : decode cX7_event 59 = .ok (.ireturn, 1) := by decide +kernel
theorem dX7_event_60 : decode cX7_event 60 = .ok (.aload_n 0, 1) := by decide +kernel
theorem dX7_event_61 : decode cX7_event 61 = .ok (.getfield 7, 3) := by decide +kernel
theorem dX7_event_64 : decode cX7_event 64 = .ok (.iload_n 2, 1) := by decide +kernel
theorem dX7_event_65 : decode cX7_event 65 = .ok (.ifCond .ne 8, 3) := by decide +kernel
theorem dX7_event_68 : decode cX7_event 68 = .ok (.bipush 85, 2) := by decide +kernel
theorem dX7_event_70 : decode cX7_event 70 = .ok (.goto 5, 3) := by decide +kernel
theorem dX7_event_73 : decode cX7_event 73 = .ok (.bipush 125, 2) := by decide +kernel
theorem dX7_event_75 : decode cX7_event 75 = .ok (.iload_n 1, 1) := by decide +kernel
theorem dX7_event_76 : decode cX7_event 76 = .ok (.bipush 40, 2) := by decide +kernel
theorem dX7_event_78 : decode cX7_event 78 = .ok (.irem, 1) := by decide +kernel
theorem dX7_event_79 : decode cX7_event 79 = .ok (.iadd, 1) := by decide +kernel
theorem dX7_event_80 : decode cX7_event 80 = .ok (.iaload, 1) := by decide +kernel
theorem dX7_event_81 : decode cX7_event 81 = .ok (.ireturn, 1) := by decide +kernel
theorem dX7_putAside_0 : decode cX7_putAside 0 = .ok (.iconst 0, 1) := by decide +kernel
theorem dX7_putAside_1 : decode cX7_putAside 1 = .ok (.istore_n 1, 1) := by decide +kernel
theorem dX7_putAside_2 : decode cX7_putAside 2 = .ok (.iload_n 1, 1) := by decide +kernel
theorem dX7_putAside_3 : decode cX7_putAside 3 = .ok (.sipush 165, 3) := by decide +kernel
theorem dX7_putAside_6 : decode cX7_putAside 6 = .ok (.if_icmp .ge 21, 3) := by decide +kernel
theorem dX7_putAside_9 : decode cX7_putAside 9 = .ok (.aload_n 0, 1) := by decide +kernel
theorem dX7_putAside_10 : decode cX7_putAside 10 = .ok (.getfield 13, 3) := by decide +kernel
theorem dX7_putAside_13 : decode cX7_putAside 13 = .ok (.iload_n 1, 1) := by decide +kernel
theorem dX7_putAside_14 : decode cX7_putAside 14 = .ok (.aload_n 0, 1) := by decide +kernel
theorem dX7_putAside_15 : decode cX7_putAside 15 = .ok (.getfield 7, 3) := by decide +kernel
theorem dX7_putAside_18 : decode cX7_putAside 18 = .ok (.iload_n 1, 1) := by decide +kernel
theorem dX7_putAside_19 : decode cX7_putAside 19 = .ok (.iaload, 1) := by decide +kernel
theorem dX7_putAside_20 : decode cX7_putAside 20 = .ok (.iastore, 1) := by decide +kernel
theorem dX7_putAside_21 : decode cX7_putAside 21 = .ok (.iinc 1 1, 3) := by decide +kernel
theorem dX7_putAside_24 : decode cX7_putAside 24 = .ok (.goto (-22), 3) := by decide +kernel
theorem dX7_putAside_27 : decode cX7_putAside 27 = .ok (.return_, 1) := by decide +kernel
theorem dX7_putBack_0 : decode cX7_putBack 0 = .ok (.iconst 0, 1) := by decide +kernel
theorem dX7_putBack_1 : decode cX7_putBack 1 = .ok (.istore_n 1, 1) := by decide +kernel
theorem dX7_putBack_2 : decode cX7_putBack 2 = .ok (.iload_n 1, 1) := by decide +kernel
theorem dX7_putBack_3 : decode cX7_putBack 3 = .ok (.sipush 165, 3) := by decide +kernel
theorem dX7_putBack_6 : decode cX7_putBack 6 = .ok (.if_icmp .ge 21, 3) := by decide +kernel
theorem dX7_putBack_9 : decode cX7_putBack 9 = .ok (.aload_n 0, 1) := by decide +kernel
theorem dX7_putBack_10 : decode cX7_putBack 10 = .ok (.getfield 7, 3) := by decide +kernel
theorem dX7_putBack_13 : decode cX7_putBack 13 = .ok (.iload_n 1, 1) := by decide +kernel
theorem dX7_putBack_14 : decode cX7_putBack 14 = .ok (.aload_n 0, 1) := by decide +kernel
theorem dX7_putBack_15 : decode cX7_putBack 15 = .ok (.getfield 13, 3) := by decide +kernel
theorem dX7_putBack_18 : decode cX7_putBack 18 = .ok (.iload_n 1, 1) := by decide +kernel
theorem dX7_putBack_19 : decode cX7_putBack 19 = .ok (.iaload, 1) := by decide +kernel
theorem dX7_putBack_20 : decode cX7_putBack 20 = .ok (.iastore, 1) := by decide +kernel
theorem dX7_putBack_21 : decode cX7_putBack 21 = .ok (.iinc 1 1, 3) := by decide +kernel
theorem dX7_putBack_24 : decode cX7_putBack 24 = .ok (.goto (-22), 3) := by decide +kernel
theorem dX7_putBack_27 : decode cX7_putBack 27 = .ok (.return_, 1) := by decide +kernel
set_option maxRecDepth 20000 in
theorem ggX7_tryIsland_X7_putAside : GoodIn wsX7_tryIsland wsX7_putAside := goodIn_r _ [6, 7, 1, 66, 67, 68, 69, 70, 71, 72] (by decide +kernel) (by decide +kernel)
set_option maxRecDepth 20000 in
theorem gX7_tryIsland_X7_putAside : GoodIn wsX7_tryIsland (wsV RX7 95 RX7 yX7_putAside wsX7_putAside) := goodIn_app (goodIn_of _ (by decide +kernel)) ggX7_tryIsland_X7_putAside
set_option maxRecDepth 20000 in
theorem ggX7_tryIsland_X7_becomeIsland : GoodIn wsX7_tryIsland wsX7_becomeIsland := goodIn_r _ [11, 1, 66, 67, 68, 69, 70, 71, 72] (by decide +kernel) (by decide +kernel)
set_option maxRecDepth 20000 in
theorem gX7_tryIsland_X7_becomeIsland : GoodIn wsX7_tryIsland (wsV RX7 50 RX7 yX7_becomeIsland wsX7_becomeIsland) := goodIn_app (goodIn_of _ (by decide +kernel)) ggX7_tryIsland_X7_becomeIsland
set_option maxRecDepth 20000 in
theorem ggX7_tryIsland_X7_tick : GoodIn wsX7_tryIsland wsX7_tick := goodIn_r _ [15, 1, 16, 17, 18, 5, 19, 20, 21, 22, 23, 24, 25, 26, 27, 28, 29, 30, 31, 32, 33, 34, 35, 36, 37, 38, 39, 40, 41, 42, 43, 44, 45, 46, 47, 48, 49, 50, 51, 52, 53, 54, 55, 56, 57, 58, 59, 60, 61, 66, 67, 68, 69, 70, 71, 72] (by decide +kernel) (by decide +kernel)
set_option maxRecDepth 20000 in
theorem gX7_tryIsland_X7_tick : GoodIn wsX7_tryIsland (wsV RX7 88 RX7 yX7_tick wsX7_tick) := goodIn_app (goodIn_of _ (by decide +kernel)) ggX7_tryIsland_X7_tick
set_option maxRecDepth 20000 in
theorem ggX7_tryIsland_X7_putBack : GoodIn wsX7_tryIsland wsX7_putBack := goodIn_r _ [65, 1, 7, 66, 67, 68, 69, 70, 71, 72] (by decide +kernel) (by decide +kernel)
set_option maxRecDepth 20000 in
theorem gX7_tryIsland_X7_putBack : GoodIn wsX7_tryIsland (wsV RX7 98 RX7 yX7_putBack wsX7_putBack) := goodIn_app (goodIn_of _ (by decide +kernel)) ggX7_tryIsland_X7_putBack
theorem dX7_tryIsland_0 : decode cX7_tryIsland 0 = .ok (.aload_n 0, 1) := by decide +kernel
theorem dX7_tryIsland_1 : decode cX7_tryIsland 1 = .ok (.invokevirtual 95, 3) := by decide +kernel
theorem dX7_tryIsland_4 : decode cX7_tryIsland 4 = .ok (.aload_n 0, 1) := by decide +kernel
theorem dX7_tryIsland_5 : decode cX7_tryIsland 5 = .ok (.iload_n 1, 1) := by decide +kernel
theorem dX7_tryIsland_6 : decode cX7_tryIsland 6 = .ok (.iload_n 2, 1) := by decide +kernel
theorem dX7_tryIsland_7 : decode cX7_tryIsland 7 = .ok (.iload_n 3, 1) := by decide +kernel
theorem dX7_tryIsland_8 : decode cX7_tryIsland 8 = .ok (.invokevirtual 50, 3) := by decide +kernel
theorem dX7_tryIsland_11 : decode cX7_tryIsland 11 = .ok (.aload_n 0, 1) := by decide +kernel
theorem dX7_tryIsland_12 : decode cX7_tryIsland 12 = .ok (.getfield 7, 3) := by decide +kernel
theorem dX7_tryIsland_15 : decode cX7_tryIsland 15 = .ok (.bipush 10, 2) := by decide +kernel
theorem dX7_tryIsland_17 : decode cX7_tryIsland 17 = .ok (.iconst 0, 1) := by decide +kernel
theorem dX7_tryIsland_18 : decode cX7_tryIsland 18 = .ok (.iastore, 1) := by decide +kernel
theorem dX7_tryIsland_19 : decode cX7_tryIsland 19 = .ok (.iconst 0, 1) := by decide +kernel
theorem dX7_tryIsland_20 : decode cX7_tryIsland 20 = .ok (.istore 5, 2) := by decide +kernel
theorem dX7_tryIsland_22 : decode cX7_tryIsland 22 = .ok (.iload 5, 2) := by decide +kernel
theorem dX7_tryIsland_24 : decode cX7_tryIsland 24 = .ok (.iload 4, 2) := by decide +kernel
theorem dX7_tryIsland_26 : decode cX7_tryIsland 26 = .ok (.if_icmp .ge 24, 3) := by decide +kernel
theorem dX7_tryIsland_29 : decode cX7_tryIsland 29 = .ok (.aload_n 0, 1) := by decide +kernel
theorem dX7_tryIsland_30 : decode cX7_tryIsland 30 = .ok (.getfield 7, 3) := by decide +kernel
theorem dX7_tryIsland_33 : decode cX7_tryIsland 33 = .ok (.bipush 20, 2) := by decide +kernel
theorem dX7_tryIsland_35 : decode cX7_tryIsland 35 = .ok (.iaload, 1) := by decide +kernel
theorem dX7_tryIsland_36 : decode cX7_tryIsland 36 = .ok (.iconst 1, 1) := by decide +kernel
theorem dX7_tryIsland_37 : decode cX7_tryIsland 37 = .ok (.if_icmp .ne 13, 3) := by decide +kernel
theorem dX7_tryIsland_40 : decode cX7_tryIsland 40 = .ok (.aload_n 0, 1) := by decide +kernel
theorem dX7_tryIsland_41 : decode cX7_tryIsland 41 = .ok (.invokevirtual 88, 3) := by decide +kernel
theorem dX7_tryIsland_44 : decode cX7_tryIsland 44 = .ok (.iinc 5 1, 3) := by decide +kernel
theorem dX7_tryIsland_47 : decode cX7_tryIsland 47 = .ok (.goto (-25), 3) := by decide +kernel
theorem dX7_tryIsland_50 : decode cX7_tryIsland 50 = .ok (.aload_n 0, 1) := by decide +kernel
theorem dX7_tryIsland_51 : decode cX7_tryIsland 51 = .ok (.getfield 7, 3) := by decide +kernel
theorem dX7_tryIsland_54 : decode cX7_tryIsland 54 = .ok (.bipush 20, 2) := by decide +kernel
theorem dX7_tryIsland_56 : decode cX7_tryIsland 56 = .ok (.iaload, 1) := by decide +kernel
theorem dX7_tryIsland_57 : decode cX7_tryIsland 57 = .ok (.iconst 1, 1) := by decide +kernel
theorem dX7_tryIsland_58 : decode cX7_tryIsland 58 = .ok (.if_icmp .ne 7, 3) := by decide +kernel
theorem dX7_tryIsland_61 : decode cX7_tryIsland 61 = .ok (.iconst (-1), 1) := by decide +kernel
theorem dX7_tryIsland_62 : decode cX7_tryIsland 62 = .ok (.goto 5, 3) := by decide +kernel
theorem dX7_tryIsland_65 : decode cX7_tryIsland 65 = .ok (.iload 5, 2) := by decide +kernel
theorem dX7_tryIsland_67 : decode cX7_tryIsland 67 = .ok (.istore 6, 2) := by decide +kernel
theorem dX7_tryIsland_69 : decode cX7_tryIsland 69 = .ok (.aload_n 0, 1) := by decide +kernel
theorem dX7_tryIsland_70 : decode cX7_tryIsland 70 = .ok (.invokevirtual 98, 3) := by decide +kernel
theorem dX7_tryIsland_73 : decode cX7_tryIsland 73 = .ok (.iload 6, 2) := by decide +kernel
theorem dX7_tryIsland_75 : decode cX7_tryIsland 75 = .ok (.ireturn, 1) := by decide +kernel
set_option maxRecDepth 20000 in
theorem ggX7_islandTime_X7_isIsland : GoodIn wsX7_islandTime wsX7_isIsland := goodIn_r _ [6, 7, 8, 9, 10, 5, 11] (by decide +kernel) (by decide +kernel)
set_option maxRecDepth 20000 in
theorem gX7_islandTime_X7_isIsland : GoodIn wsX7_islandTime (va_wsS RX7 47 yX7_isIsland wsX7_isIsland) := goodIn_app (goodIn_of _ (by decide +kernel)) ggX7_islandTime_X7_isIsland
set_option maxRecDepth 20000 in
theorem ggX7_islandTime_X7_in : GoodIn wsX7_islandTime wsX7_in := goodIn_r _ [11] (by decide +kernel) (by decide +kernel)
set_option maxRecDepth 20000 in
theorem gX7_islandTime_X7_in : GoodIn wsX7_islandTime (va_wsS RX7 35 yX7_in wsX7_in) := goodIn_app (goodIn_of _ (by decide +kernel)) ggX7_islandTime_X7_in
set_option maxRecDepth 20000 in
theorem ggX7_islandTime_X7_tryIsland : GoodIn wsX7_islandTime wsX7_tryIsland := goodIn_r _ [15, 1, 16, 17, 18, 5, 19, 20, 21, 22, 23, 24, 25, 26, 27, 28, 29, 30, 31, 32, 33, 34, 35, 36, 37, 38, 39, 40, 41, 42, 43, 44, 45, 46, 47, 9, 10, 11, 48, 49, 50, 51, 52, 53, 54, 55, 56, 57, 58, 59, 60, 61, 62, 63, 64, 65, 66, 67, 68, 69, 70, 71, 72, 73, 74, 75, 76, 77, 78, 79, 80, 81, 82] (by decide +kernel) (by decide +kernel)
set_option maxRecDepth 20000 in
theorem gX7_islandTime_X7_tryIsland : GoodIn wsX7_islandTime (wsV RX7 101 RX7 yX7_tryIsland wsX7_tryIsland) := goodIn_app (goodIn_of _ (by decide +kernel)) ggX7_islandTime_X7_tryIsland
theorem dX7_islandTime_0 : decode cX7_islandTime 0 = .ok (.aload_n 0, 1) := by decide +kernel
theorem dX7_islandTime_1 : decode cX7_islandTime 1 = .ok (.iload_n 1, 1) := by decide +kernel
theorem dX7_islandTime_2 : decode cX7_islandTime 2 = .ok (.iload_n 2, 1) := by decide +kernel
theorem dX7_islandTime_3 : decode cX7_islandTime 3 = .ok (.iload_n 3, 1) := by decide +kernel
theorem dX7_islandTime_4 : decode cX7_islandTime 4 = .ok (.invokestatic 47, 3) := by decide +kernel
theorem dX7_islandTime_7 : decode cX7_islandTime 7 = .ok (.ifCond .eq 15, 3) := by decide +kernel
theorem dX7_islandTime_10 : decode cX7_islandTime 10 = .ok (.iload 4, 2) := by decide +kernel
theorem dX7_islandTime_12 : decode cX7_islandTime 12 = .ok (.iconst 1, 1) := by decide +kernel
theorem dX7_islandTime_13 : decode cX7_islandTime 13 = .ok (.sipush 2000, 3) := by decide +kernel
theorem dX7_islandTime_16 : decode cX7_islandTime 16 = .ok (.invokestatic 35, 3) := by decide +kernel
theorem dX7_islandTime_19 : decode cX7_islandTime 19 = .ok (.ifCond .ne 7, 3) := by decide +kernel
theorem dX7_islandTime_22 : decode cX7_islandTime 22 = .ok (.iconst 1, 1) := by decide +kernel
theorem dX7_islandTime_23 : decode cX7_islandTime 23 = .ok (.goto 19, 3) := by decide +kernel
theorem dX7_islandTime_26 : decode cX7_islandTime 26 = .ok (.aload_n 0, 1) := by decide +kernel
theorem dX7_islandTime_27 : decode cX7_islandTime 27 = .ok (.getfield 7, 3) := by decide +kernel
theorem dX7_islandTime_30 : decode cX7_islandTime 30 = .ok (.bipush 20, 2) := by decide +kernel
theorem dX7_islandTime_32 : decode cX7_islandTime 32 = .ok (.iaload, 1) := by decide +kernel
theorem dX7_islandTime_33 : decode cX7_islandTime 33 = .ok (.iconst 1, 1) := by decide +kernel
theorem dX7_islandTime_34 : decode cX7_islandTime 34 = .ok (.if_icmp .eq 7, 3) := by decide +kernel
theorem dX7_islandTime_37 : decode cX7_islandTime 37 = .ok (.iconst 2, 1) := by decide +kernel
theorem dX7_islandTime_38 : decode cX7_islandTime 38 = .ok (.goto 4, 3) := by decide +kernel
theorem dX7_islandTime_41 : decode cX7_islandTime 41 = .ok (.iconst 0, 1) := by decide +kernel
theorem dX7_islandTime_42 : decode cX7_islandTime 42 = .ok (.putfield 30, 3) := by decide +kernel
theorem dX7_islandTime_45 : decode cX7_islandTime 45 = .ok (.aload_n 0, 1) := by decide +kernel
theorem dX7_islandTime_46 : decode cX7_islandTime 46 = .ok (.getfield 30, 3) := by decide +kernel
theorem dX7_islandTime_49 : decode cX7_islandTime 49 = .ok (.ifCond .eq 7, 3) := by decide +kernel
theorem dX7_islandTime_52 : decode cX7_islandTime 52 = .ok (.iconst 0, 1) := by decide +kernel
theorem dX7_islandTime_53 : decode cX7_islandTime 53 = .ok (.goto 12, 3) := by decide +kernel
theorem dX7_islandTime_56 : decode cX7_islandTime 56 = .ok (.aload_n 0, 1) := by decide +kernel
theorem dX7_islandTime_57 : decode cX7_islandTime 57 = .ok (.iload_n 1, 1) := by decide +kernel
theorem dX7_islandTime_58 : decode cX7_islandTime 58 = .ok (.iload_n 2, 1) := by decide +kernel
theorem dX7_islandTime_59 : decode cX7_islandTime 59 = .ok (.iload_n 3, 1) := by decide +kernel
theorem dX7_islandTime_60 : decode cX7_islandTime 60 = .ok (.iload 4, 2) := by decide +kernel
theorem dX7_islandTime_62 : decode cX7_islandTime 62 = .ok (.invokevirtual 101, 3) := by decide +kernel
theorem dX7_islandTime_65 : decode cX7_islandTime 65 = .ok (.ireturn, 1) := by decide +kernel
set_option maxRecDepth 20000 in
theorem ggX7_undetected_X7_in : GoodIn wsX7_undetected wsX7_in := goodIn_r _ [6] (by decide +kernel) (by decide +kernel)
set_option maxRecDepth 20000 in
theorem gX7_undetected_X7_in : GoodIn wsX7_undetected (va_wsS RX7 35 yX7_in wsX7_in) := goodIn_app (goodIn_of _ (by decide +kernel)) ggX7_undetected_X7_in
set_option maxRecDepth 20000 in
theorem ggX7_undetected_X7_tryIsland : GoodIn wsX7_undetected wsX7_tryIsland := goodIn_r _ [10, 1, 11, 12, 13, 5, 14, 15, 16, 17, 18, 19, 20, 21, 22, 23, 24, 25, 26, 27, 28, 29, 30, 31, 32, 33, 34, 35, 36, 37, 38, 39, 40, 41, 42, 3, 4, 6, 43, 44, 45, 46, 47, 48, 49, 50, 51, 52, 53, 54, 55, 56, 57, 58, 59, 60, 61, 62, 63, 64, 65, 66, 67, 68, 69, 70, 71, 72, 73, 74, 75, 76, 77] (by decide +kernel) (by decide +kernel)
set_option maxRecDepth 20000 in
theorem gX7_undetected_X7_tryIsland : GoodIn wsX7_undetected (wsV RX7 101 RX7 yX7_tryIsland wsX7_tryIsland) := goodIn_app (goodIn_of _ (by decide +kernel)) ggX7_undetected_X7_tryIsland
theorem dX7_undetected_0 : decode cX7_undetected 0 = .ok (.iload_n 1, 1) := by decide +kernel
theorem dX7_undetected_1 : decode cX7_undetected 1 = .ok (.iconst 1, 1) := by decide +kernel
theorem dX7_undetected_2 : decode cX7_undetected 2 = .ok (.sipush 5000, 3) := by decide +kernel
theorem dX7_undetected_5 : decode cX7_undetected 5 = .ok (.invokestatic 35, 3) := by decide +kernel
theorem dX7_undetected_8 : decode cX7_undetected 8 = .ok (.ifCond .eq 53, 3) := by decide +kernel
theorem dX7_undetected_11 : decode cX7_undetected 11 = .ok (.iload_n 2, 1) := by decide +kernel
theorem dX7_undetected_12 : decode cX7_undetected 12 = .ok (.iconst 1, 1) := by decide +kernel
theorem dX7_undetected_13 : decode cX7_undetected 13 = .ok (.sipush 500, 3) := by decide +kernel
theorem dX7_undetected_16 : decode cX7_undetected 16 = .ok (.invokestatic 35, 3) := by decide +kernel
theorem dX7_undetected_19 : decode cX7_undetected 19 = .ok (.ifCond .eq 42, 3) := by decide +kernel
theorem dX7_undetected_22 : decode cX7_undetected 22 = .ok (.iload_n 3, 1) := by decide +kernel
theorem dX7_undetected_23 : decode cX7_undetected 23 = .ok (.iconst 1, 1) := by decide +kernel
theorem dX7_undetected_24 : decode cX7_undetected 24 = .ok (.bipush 10, 2) := by decide +kernel
theorem dX7_undetected_26 : decode cX7_undetected 26 = .ok (.invokestatic 35, 3) := by decide +kernel
theorem dX7_undetected_29 : decode cX7_undetected 29 = .ok (.ifCond .eq 32, 3) := by decide +kernel
theorem dX7_undetected_32 : decode cX7_undetected 32 = .ok (.iload 4, 2) := by decide +kernel
theorem dX7_undetected_34 : decode cX7_undetected 34 = .ok (.iconst 1, 1) := by decide +kernel
theorem dX7_undetected_35 : decode cX7_undetected 35 = .ok (.sipush 500, 3) := by decide +kernel
theorem dX7_undetected_38 : decode cX7_undetected 38 = .ok (.invokestatic 35, 3) := by decide +kernel
theorem dX7_undetected_41 : decode cX7_undetected 41 = .ok (.ifCond .eq 20, 3) := by decide +kernel
theorem dX7_undetected_44 : decode cX7_undetected 44 = .ok (.iload_n 1, 1) := by decide +kernel
theorem dX7_undetected_45 : decode cX7_undetected 45 = .ok (.iload_n 3, 1) := by decide +kernel
theorem dX7_undetected_46 : decode cX7_undetected 46 = .ok (.iconst 1, 1) := by decide +kernel
theorem dX7_undetected_47 : decode cX7_undetected 47 = .ok (.isub, 1) := by decide +kernel
theorem dX7_undetected_48 : decode cX7_undetected 48 = .ok (.iload_n 2, 1) := by decide +kernel
theorem dX7_undetected_49 : decode cX7_undetected 49 = .ok (.imul, 1) := by decide +kernel
theorem dX7_undetected_50 : decode cX7_undetected 50 = .ok (.iadd, 1) := by decide +kernel
theorem dX7_undetected_51 : decode cX7_undetected 51 = .ok (.sipush 5000, 3) := by decide +kernel
theorem dX7_undetected_54 : decode cX7_undetected 54 = .ok (.if_icmp .gt 7, 3) := by decide +kernel
theorem dX7_undetected_57 : decode cX7_undetected 57 = .ok (.iconst 1, 1) := by decide +kernel
theorem dX7_undetected_58 : decode cX7_undetected 58 = .ok (.goto 4, 3) := by decide +kernel
theorem dX7_undetected_61 : decode cX7_undetected 61 = .ok (.iconst 0, 1) := by decide +kernel
theorem dX7_undetected_62 : decode cX7_undetected 62 = .ok (.istore 5, 2) := by decide +kernel
theorem dX7_undetected_64 : decode cX7_undetected 64 = .ok (.aload_n 0, 1) := by decide +kernel
theorem dX7_undetected_65 : decode cX7_undetected 65 = .ok (.iload 5, 2) := by decide +kernel
theorem dX7_undetected_67 : decode cX7_undetected 67 = .ok (.ifCond .ne 7, 3) := by decide +kernel
theorem dX7_undetected_70 : decode cX7_undetected 70 = .ok (.iconst 1, 1) := by decide +kernel
theorem dX7_undetected_71 : decode cX7_undetected 71 = .ok (.goto 19, 3) := by decide +kernel
theorem dX7_undetected_74 : decode cX7_undetected 74 = .ok (.aload_n 0, 1) := by decide +kernel
theorem dX7_undetected_75 : decode cX7_undetected 75 = .ok (.getfield 7, 3) := by decide +kernel
theorem dX7_undetected_78 : decode cX7_undetected 78 = .ok (.bipush 20, 2) := by decide +kernel
theorem dX7_undetected_80 : decode cX7_undetected 80 = .ok (.iaload, 1) := by decide +kernel
theorem dX7_undetected_81 : decode cX7_undetected 81 = .ok (.iconst 1, 1) := by decide +kernel
theorem dX7_undetected_82 : decode cX7_undetected 82 = .ok (.if_icmp .eq 7, 3) := by decide +kernel
theorem dX7_undetected_85 : decode cX7_undetected 85 = .ok (.iconst 2, 1) := by decide +kernel
theorem dX7_undetected_86 : decode cX7_undetected 86 = .ok (.goto 4, 3) := by decide +kernel
theorem dX7_undetected_89 : decode cX7_undetected 89 = .ok (.iconst 0, 1) := by decide +kernel
theorem dX7_undetected_90 : decode cX7_undetected 90 = .ok (.putfield 30, 3) := by decide +kernel
theorem dX7_undetected_93 : decode cX7_undetected 93 = .ok (.iconst 0, 1) := by decide +kernel
theorem dX7_undetected_94 : decode cX7_undetected 94 = .ok (.istore 6, 2) := by decide +kernel
theorem dX7_undetected_96 : decode cX7_undetected 96 = .ok (.iconst 0, 1) := by decide +kernel
theorem dX7_undetected_97 : decode cX7_undetected 97 = .ok (.istore 7, 2) := by decide +kernel
theorem dX7_undetected_99 : decode cX7_undetected 99 = .ok (.iload 7, 2) := by decide +kernel
theorem dX7_undetected_101 : decode cX7_undetected 101 = .ok (.iload_n 3, 1) := by decide +kernel
theorem dX7_undetected_102 : decode cX7_undetected 102 = .ok (.if_icmp .ge 56, 3) := by decide +kernel
theorem dX7_undetected_105 : decode cX7_undetected 105 = .ok (.aload_n 0, 1) := by decide +kernel
theorem dX7_undetected_106 : decode cX7_undetected 106 = .ok (.getfield 30, 3) := by decide +kernel
theorem dX7_undetected_109 : decode cX7_undetected 109 = .ok (.ifCond .ne 49, 3) := by decide +kernel
theorem dX7_undetected_112 : decode cX7_undetected 112 = .ok (.iload 6, 2) := by decide +kernel
theorem dX7_undetected_114 : decode cX7_undetected 114 = .ok (.aload_n 0, 1) := by decide +kernel
theorem dX7_undetected_115 : decode cX7_undetected 115 = .ok (.iload_n 1, 1) := by decide +kernel
theorem dX7_undetected_116 : decode cX7_undetected 116 = .ok (.iload 7, 2) := by decide +kernel
theorem dX7_undetected_118 : decode cX7_undetected 118 = .ok (.iload_n 2, 1) := by decide +kernel
theorem dX7_undetected_119 : decode cX7_undetected 119 = .ok (.imul, 1) := by decide +kernel
theorem dX7_undetected_120 : decode cX7_undetected 120 = .ok (.iadd, 1) := by decide +kernel
theorem dX7_undetected_121 : decode cX7_undetected 121 = .ok (.aload_n 0, 1) := by decide +kernel
theorem dX7_undetected_122 : decode cX7_undetected 122 = .ok (.getfield 7, 3) := by decide +kernel
theorem dX7_undetected_125 : decode cX7_undetected 125 = .ok (.bipush 14, 2) := by decide +kernel
theorem dX7_undetected_127 : decode cX7_undetected 127 = .ok (.iaload, 1) := by decide +kernel
theorem dX7_undetected_128 : decode cX7_undetected 128 = .ok (.aload_n 0, 1) := by decide +kernel
theorem dX7_undetected_129 : decode cX7_undetected 129 = .ok (.getfield 7, 3) := by decide +kernel
theorem dX7_undetected_132 : decode cX7_undetected 132 = .ok (.bipush 15, 2) := by decide +kernel
theorem dX7_undetected_134 : decode cX7_undetected 134 = .ok (.iaload, 1) := by decide +kernel
theorem dX7_undetected_135 : decode cX7_undetected 135 = .ok (.iload 4, 2) := by decide +kernel
theorem dX7_undetected_137 : decode cX7_undetected 137 = .ok (.invokevirtual 101, 3) := by decide +kernel
theorem dX7_undetected_140 : decode cX7_undetected 140 = .ok (.iconst (-1), 1) := by decide +kernel
theorem dX7_undetected_141 : decode cX7_undetected 141 = .ok (.if_icmp .ne 7, 3) := by decide +kernel
theorem dX7_undetected_144 : decode cX7_undetected 144 = .ok (.iconst 1, 1) := by decide +kernel
theorem dX7_undetected_145 : decode cX7_undetected 145 = .ok (.goto 4, 3) := by decide +kernel
theorem dX7_undetected_148 : decode cX7_undetected 148 = .ok (.iconst 0, 1) := by decide +kernel
theorem dX7_undetected_149 : decode cX7_undetected 149 = .ok (.iadd, 1) := by decide +kernel
theorem dX7_undetected_150 : decode cX7_undetected 150 = .ok (.istore 6, 2) := by decide +kernel
theorem dX7_undetected_152 : decode cX7_undetected 152 = .ok (.iinc 7 1, 3) := by decide +kernel
theorem dX7_undetected_155 : decode cX7_undetected 155 = .ok (.goto (-56), 3) := by decide +kernel
theorem dX7_undetected_158 : decode cX7_undetected 158 = .ok (.iload 6, 2) := by decide +kernel
theorem dX7_undetected_160 : decode cX7_undetected 160 = .ok (.ireturn, 1) := by decide +kernel
set_option maxRecDepth 20000 in
theorem ggX7_relockTime_X7_in : GoodIn wsX7_relockTime wsX7_in := goodIn_r _ [8] (by decide +kernel) (by decide +kernel)
set_option maxRecDepth 20000 in
theorem gX7_relockTime_X7_in : GoodIn wsX7_relockTime (va_wsS RX7 35 yX7_in wsX7_in) := goodIn_app (goodIn_of _ (by decide +kernel)) ggX7_relockTime_X7_in
set_option maxRecDepth 20000 in
theorem ggX7_relockTime_X7_putAside : GoodIn wsX7_relockTime wsX7_putAside := goodIn_r _ [12, 13, 4, 64, 65, 66, 67, 68, 69, 70] (by decide +kernel) (by decide +kernel)
set_option maxRecDepth 20000 in
theorem gX7_relockTime_X7_putAside : GoodIn wsX7_relockTime (wsV RX7 95 RX7 yX7_putAside wsX7_putAside) := goodIn_app (goodIn_of _ (by decide +kernel)) ggX7_relockTime_X7_putAside
set_option maxRecDepth 20000 in
theorem ggX7_relockTime_X7_round : GoodIn wsX7_relockTime wsX7_round := goodIn_r _ [16, 17] (by decide +kernel) (by decide +kernel)
set_option maxRecDepth 20000 in
theorem gX7_relockTime_X7_round : GoodIn wsX7_relockTime (va_wsS RX7 43 yX7_round wsX7_round) := goodIn_app (goodIn_of _ (by decide +kernel)) ggX7_relockTime_X7_round
set_option maxRecDepth 20000 in
theorem ggX7_relockTime_X7_hasLock : GoodIn wsX7_relockTime wsX7_hasLock := goodIn_r _ [21, 4, 64, 65, 66, 67, 68, 69, 70] (by decide +kernel) (by decide +kernel)
set_option maxRecDepth 20000 in
theorem gX7_relockTime_X7_hasLock : GoodIn wsX7_relockTime (wsV RX7 65 RX7 yX7_hasLock wsX7_hasLock) := goodIn_app (goodIn_of _ (by decide +kernel)) ggX7_relockTime_X7_hasLock
set_option maxRecDepth 20000 in
theorem ggX7_relockTime_X7_tick : GoodIn wsX7_relockTime wsX7_tick := goodIn_r _ [25, 4, 26, 27, 28, 7, 29, 30, 31, 32, 33, 34, 35, 14, 15, 16, 17, 36, 37, 38, 39, 2, 5, 6, 8, 40, 41, 42, 43, 18, 19, 20, 21, 44, 45, 46, 47, 48, 49, 50, 51, 52, 53, 54, 55, 56, 57, 58, 59, 64, 65, 66, 67, 68, 69, 70] (by decide +kernel) (by decide +kernel)
set_option maxRecDepth 20000 in
theorem gX7_relockTime_X7_tick : GoodIn wsX7_relockTime (wsV RX7 88 RX7 yX7_tick wsX7_tick) := goodIn_app (goodIn_of _ (by decide +kernel)) ggX7_relockTime_X7_tick
set_option maxRecDepth 20000 in
theorem ggX7_relockTime_X7_putBack : GoodIn wsX7_relockTime wsX7_putBack := goodIn_r _ [63, 4, 13, 64, 65, 66, 67, 68, 69, 70] (by decide +kernel) (by decide +kernel)
set_option maxRecDepth 20000 in
theorem gX7_relockTime_X7_putBack : GoodIn wsX7_relockTime (wsV RX7 98 RX7 yX7_putBack wsX7_putBack) := goodIn_app (goodIn_of _ (by decide +kernel)) ggX7_relockTime_X7_putBack
theorem dX7_relockTime_0 : decode cX7_relockTime 0 = .ok (.aload_n 0, 1) := by decide +kernel
theorem dX7_relockTime_1 : decode cX7_relockTime 1 = .ok (.iload_n 1, 1) := by decide +kernel
theorem dX7_relockTime_2 : decode cX7_relockTime 2 = .ok (.ldc 41, 2) := by decide +kernel
theorem dX7_relockTime_4 : decode cX7_relockTime 4 = .ok (.ldc 42, 2) := by decide +kernel
theorem dX7_relockTime_6 : decode cX7_relockTime 6 = .ok (.invokestatic 35, 3) := by decide +kernel
theorem dX7_relockTime_9 : decode cX7_relockTime 9 = .ok (.ifCond .eq 18, 3) := by decide +kernel
theorem dX7_relockTime_12 : decode cX7_relockTime 12 = .ok (.iload_n 2, 1) := by decide +kernel
theorem dX7_relockTime_13 : decode cX7_relockTime 13 = .ok (.iconst 1, 1) := by decide +kernel
theorem dX7_relockTime_14 : decode cX7_relockTime 14 = .ok (.sipush 2000, 3) := by decide +kernel
theorem dX7_relockTime_17 : decode cX7_relockTime 17 = .ok (.invokestatic 35, 3) := by decide +kernel
theorem dX7_relockTime_20 : decode cX7_relockTime 20 = .ok (.ifCond .eq 7, 3) := by decide +kernel
theorem dX7_relockTime_23 : decode cX7_relockTime 23 = .ok (.iconst 0, 1) := by decide +kernel
theorem dX7_relockTime_24 : decode cX7_relockTime 24 = .ok (.goto 4, 3) := by decide +kernel
theorem dX7_relockTime_27 : decode cX7_relockTime 27 = .ok (.iconst 1, 1) := by decide +kernel
theorem dX7_relockTime_28 : decode cX7_relockTime 28 = .ok (.putfield 30, 3) := by decide +kernel
theorem dX7_relockTime_31 : decode cX7_relockTime 31 = .ok (.aload_n 0, 1) := by decide +kernel
theorem dX7_relockTime_32 : decode cX7_relockTime 32 = .ok (.getfield 30, 3) := by decide +kernel
theorem dX7_relockTime_35 : decode cX7_relockTime 35 = .ok (.ifCond .eq 5, 3) := by decide +kernel
theorem dX7_relockTime_38 : decode cX7_relockTime 38 = .ok (.iconst 0, 1) := by decide +kernel
theorem dX7_relockTime_39 : decode cX7_relockTime 39 = .ok (.ireturn, 1) := by decide +kernel
theorem dX7_relockTime_40 : decode cX7_relockTime 40 = .ok (.aload_n 0, 1) := by decide +kernel
theorem dX7_relockTime_41 : decode cX7_relockTime 41 = .ok (.invokevirtual 95, 3) := by decide +kernel
theorem dX7_relockTime_44 : decode cX7_relockTime 44 = .ok (.aload_n 0, 1) := by decide +kernel
theorem dX7_relockTime_45 : decode cX7_relockTime 45 = .ok (.getfield 7, 3) := by decide +kernel
theorem dX7_relockTime_48 : decode cX7_relockTime 48 = .ok (.iconst 3, 1) := by decide +kernel
theorem dX7_relockTime_49 : decode cX7_relockTime 49 = .ok (.aload_n 0, 1) := by decide +kernel
theorem dX7_relockTime_50 : decode cX7_relockTime 50 = .ok (.getfield 7, 3) := by decide +kernel
theorem dX7_relockTime_53 : decode cX7_relockTime 53 = .ok (.iconst 3, 1) := by decide +kernel
theorem dX7_relockTime_54 : decode cX7_relockTime 54 = .ok (.iaload, 1) := by decide +kernel
theorem dX7_relockTime_55 : decode cX7_relockTime 55 = .ok (.iload_n 1, 1) := by decide +kernel
theorem dX7_relockTime_56 : decode cX7_relockTime 56 = .ok (.iadd, 1) := by decide +kernel
theorem dX7_relockTime_57 : decode cX7_relockTime 57 = .ok (.invokestatic 43, 3) := by decide +kernel
theorem dX7_relockTime_60 : decode cX7_relockTime 60 = .ok (.iastore, 1) := by decide +kernel
theorem dX7_relockTime_61 : decode cX7_relockTime 61 = .ok (.aload_n 0, 1) := by decide +kernel
theorem dX7_relockTime_62 : decode cX7_relockTime 62 = .ok (.getfield 7, 3) := by decide +kernel
theorem dX7_relockTime_65 : decode cX7_relockTime 65 = .ok (.bipush 7, 2) := by decide +kernel
theorem dX7_relockTime_67 : decode cX7_relockTime 67 = .ok (.iconst 0, 1) := by decide +kernel
theorem dX7_relockTime_68 : decode cX7_relockTime 68 = .ok (.iastore, 1) := by decide +kernel
theorem dX7_relockTime_69 : decode cX7_relockTime 69 = .ok (.iconst 0, 1) := by decide +kernel
theorem dX7_relockTime_70 : decode cX7_relockTime 70 = .ok (.istore_n 3, 1) := by decide +kernel
theorem dX7_relockTime_71 : decode cX7_relockTime 71 = .ok (.iload_n 3, 1) := by decide +kernel
theorem dX7_relockTime_72 : decode cX7_relockTime 72 = .ok (.iload_n 2, 1) := by decide +kernel
theorem dX7_relockTime_73 : decode cX7_relockTime 73 = .ok (.if_icmp .ge 20, 3) := by decide +kernel
theorem dX7_relockTime_76 : decode cX7_relockTime 76 = .ok (.aload_n 0, 1) := by decide +kernel
theorem dX7_relockTime_77 : decode cX7_relockTime 77 = .ok (.invokevirtual 65, 3) := by decide +kernel
theorem dX7_relockTime_80 : decode cX7_relockTime 80 = .ok (.ifCond .ne 13, 3) := by decide +kernel
theorem dX7_relockTime_83 : decode cX7_relockTime 83 = .ok (.aload_n 0, 1) := by decide +kernel
theorem dX7_relockTime_84 : decode cX7_relockTime 84 = .ok (.invokevirtual 88, 3) := by decide +kernel
theorem dX7_relockTime_87 : decode cX7_relockTime 87 = .ok (.iinc 3 1, 3) := by decide +kernel
theorem dX7_relockTime_90 : decode cX7_relockTime 90 = .ok (.goto (-19), 3) := by decide +kernel
theorem dX7_relockTime_93 : decode cX7_relockTime 93 = .ok (.aload_n 0, 1) := by decide +kernel
theorem dX7_relockTime_94 : decode cX7_relockTime 94 = .ok (.invokevirtual 65, 3) := by decide +kernel
theorem dX7_relockTime_97 : decode cX7_relockTime 97 = .ok (.ifCond .eq 7, 3) := by decide +kernel
theorem dX7_relockTime_100 : decode cX7_relockTime 100 = .ok (.iload_n 3, 1) := by decide +kernel
theorem dX7_relockTime_101 : decode cX7_relockTime 101 = .ok (.goto 4, 3) := by decide +kernel
theorem dX7_relockTime_104 : decode cX7_relockTime 104 = .ok (.iconst (-1), 1) := by decide +kernel
theorem dX7_relockTime_105 : decode cX7_relockTime 105 = .ok (.istore 4, 2) := by decide +kernel
theorem dX7_relockTime_107 : decode cX7_relockTime 107 = .ok (.aload_n 0, 1) := by decide +kernel
theorem dX7_relockTime_108 : decode cX7_relockTime 108 = .ok (.invokevirtual 98, 3) := by decide +kernel
theorem dX7_relockTime_111 : decode cX7_relockTime 111 = .ok (.iload 4, 2) := by decide +kernel
theorem dX7_relockTime_113 : decode cX7_relockTime 113 = .ok (.ireturn, 1) := by decide +kernel
set_option maxRecDepth 20000 in
theorem ggX7_save_X7_in : GoodIn wsX7_save wsX7_in := goodIn_r _ [10] (by decide +kernel) (by decide +kernel)
set_option maxRecDepth 20000 in
theorem gX7_save_X7_in : GoodIn wsX7_save (va_wsS RX7 35 yX7_in wsX7_in) := goodIn_app (goodIn_of _ (by decide +kernel)) ggX7_save_X7_in
theorem dX7_save_0 : decode cX7_save 0 = .ok (.aload_n 0, 1) := by decide +kernel
theorem dX7_save_1 : decode cX7_save 1 = .ok (.iload_n 1, 1) := by decide +kernel
theorem dX7_save_2 : decode cX7_save 2 = .ok (.iconst 0, 1) := by decide +kernel
theorem dX7_save_3 : decode cX7_save 3 = .ok (.iconst 1, 1) := by decide +kernel
theorem dX7_save_4 : decode cX7_save 4 = .ok (.invokestatic 35, 3) := by decide +kernel
theorem dX7_save_7 : decode cX7_save 7 = .ok (.ifCond .eq 7, 3) := by decide +kernel
theorem dX7_save_10 : decode cX7_save 10 = .ok (.iconst 0, 1) := by decide +kernel
theorem dX7_save_11 : decode cX7_save 11 = .ok (.goto 4, 3) := by decide +kernel
theorem dX7_save_14 : decode cX7_save 14 = .ok (.iconst 1, 1) := by decide +kernel
theorem dX7_save_15 : decode cX7_save 15 = .ok (.putfield 30, 3) := by decide +kernel
theorem dX7_save_18 : decode cX7_save 18 = .ok (.aload_n 0, 1) := by decide +kernel
theorem dX7_save_19 : decode cX7_save 19 = .ok (.getfield 30, 3) := by decide +kernel
theorem dX7_save_22 : decode cX7_save 22 = .ok (.ifCond .ne 53, 3) := by decide +kernel
theorem dX7_save_25 : decode cX7_save 25 = .ok (.iconst 0, 1) := by decide +kernel
theorem dX7_save_26 : decode cX7_save 26 = .ok (.istore_n 2, 1) := by decide +kernel
theorem dX7_save_27 : decode cX7_save 27 = .ok (.iload_n 2, 1) := by decide +kernel
theorem dX7_save_28 : decode cX7_save 28 = .ok (.sipush 165, 3) := by decide +kernel
theorem dX7_save_31 : decode cX7_save 31 = .ok (.if_icmp .ge 27, 3) := by decide +kernel
theorem dX7_save_34 : decode cX7_save 34 = .ok (.aload_n 0, 1) := by decide +kernel
theorem dX7_save_35 : decode cX7_save 35 = .ok (.getfield 16, 3) := by decide +kernel
theorem dX7_save_38 : decode cX7_save 38 = .ok (.sipush 165, 3) := by decide +kernel
theorem dX7_save_41 : decode cX7_save 41 = .ok (.iload_n 1, 1) := by decide +kernel
theorem dX7_save_42 : decode cX7_save 42 = .ok (.imul, 1) := by decide +kernel
theorem dX7_save_43 : decode cX7_save 43 = .ok (.iload_n 2, 1) := by decide +kernel
theorem dX7_save_44 : decode cX7_save 44 = .ok (.iadd, 1) := by decide +kernel
theorem dX7_save_45 : decode cX7_save 45 = .ok (.aload_n 0, 1) := by decide +kernel
theorem dX7_save_46 : decode cX7_save 46 = .ok (.getfield 7, 3) := by decide +kernel
theorem dX7_save_49 : decode cX7_save 49 = .ok (.iload_n 2, 1) := by decide +kernel
theorem dX7_save_50 : decode cX7_save 50 = .ok (.iaload, 1) := by decide +kernel
theorem dX7_save_51 : decode cX7_save 51 = .ok (.iastore, 1) := by decide +kernel
theorem dX7_save_52 : decode cX7_save 52 = .ok (.iinc 2 1, 3) := by decide +kernel
theorem dX7_save_55 : decode cX7_save 55 = .ok (.goto (-28), 3) := by decide +kernel
theorem dX7_save_58 : decode cX7_save 58 = .ok (.aload_n 0, 1) := by decide +kernel
theorem dX7_save_59 : decode cX7_save 59 = .ok (.getfield 19, 3) := by decide +kernel
theorem dX7_save_62 : decode cX7_save 62 = .ok (.iload_n 1, 1) := by decide +kernel
theorem dX7_save_63 : decode cX7_save 63 = .ok (.aload_n 0, 1) := by decide +kernel
theorem dX7_save_64 : decode cX7_save 64 = .ok (.getfield 91, 3) := by decide +kernel
theorem dX7_save_67 : decode cX7_save 67 = .ok (.lastore, 1) := by decide +kernel
theorem dX7_save_68 : decode cX7_save 68 = .ok (.aload_n 0, 1) := by decide +kernel
theorem dX7_save_69 : decode cX7_save 69 = .ok (.getfield 23, 3) := by decide +kernel
theorem dX7_save_72 : decode cX7_save 72 = .ok (.iload_n 1, 1) := by decide +kernel
theorem dX7_save_73 : decode cX7_save 73 = .ok (.iconst 1, 1) := by decide +kernel
theorem dX7_save_74 : decode cX7_save 74 = .ok (.bastore, 1) := by decide +kernel
theorem dX7_save_75 : decode cX7_save 75 = .ok (.return_, 1) := by decide +kernel
set_option maxRecDepth 20000 in
theorem ggX7_restore_X7_in : GoodIn wsX7_restore wsX7_in := goodIn_r _ [10] (by decide +kernel) (by decide +kernel)
set_option maxRecDepth 20000 in
theorem gX7_restore_X7_in : GoodIn wsX7_restore (va_wsS RX7 35 yX7_in wsX7_in) := goodIn_app (goodIn_of _ (by decide +kernel)) ggX7_restore_X7_in
theorem dX7_restore_0 : decode cX7_restore 0 = .ok (.aload_n 0, 1) := by decide +kernel
theorem dX7_restore_1 : decode cX7_restore 1 = .ok (.iload_n 1, 1) := by decide +kernel
theorem dX7_restore_2 : decode cX7_restore 2 = .ok (.iconst 0, 1) := by decide +kernel
theorem dX7_restore_3 : decode cX7_restore 3 = .ok (.iconst 1, 1) := by decide +kernel
theorem dX7_restore_4 : decode cX7_restore 4 = .ok (.invokestatic 35, 3) := by decide +kernel
theorem dX7_restore_7 : decode cX7_restore 7 = .ok (.ifCond .ne 7, 3) := by decide +kernel
theorem dX7_restore_10 : decode cX7_restore 10 = .ok (.iconst 1, 1) := by decide +kernel
theorem dX7_restore_11 : decode cX7_restore 11 = .ok (.goto 17, 3) := by decide +kernel
theorem dX7_restore_14 : decode cX7_restore 14 = .ok (.aload_n 0, 1) := by decide +kernel
theorem dX7_restore_15 : decode cX7_restore 15 = .ok (.getfield 23, 3) := by decide +kernel
theorem dX7_restore_18 : decode cX7_restore 18 = .ok (.iload_n 1, 1) := by decide +kernel
theorem dX7_restore_19 : decode cX7_restore 19 = .ok (.baload, 1) := by decide +kernel
theorem dX7_restore_20 : decode cX7_restore 20 = .ok (.ifCond .ne 7, 3) := by decide +kernel
theorem dX7_restore_23 : decode cX7_restore 23 = .ok (.iconst 2, 1) := by decide +kernel
theorem dX7_restore_24 : decode cX7_restore 24 = .ok (.goto 4, 3) := by decide +kernel
theorem dX7_restore_27 : decode cX7_restore 27 = .ok (.iconst 0, 1) := by decide +kernel
theorem dX7_restore_28 : decode cX7_restore 28 = .ok (.putfield 30, 3) := by decide +kernel
theorem dX7_restore_31 : decode cX7_restore 31 = .ok (.aload_n 0, 1) := by decide +kernel
theorem dX7_restore_32 : decode cX7_restore 32 = .ok (.getfield 30, 3) := by decide +kernel
theorem dX7_restore_35 : decode cX7_restore 35 = .ok (.ifCond .ne 46, 3) := by decide +kernel
theorem dX7_restore_38 : decode cX7_restore 38 = .ok (.iconst 0, 1) := by decide +kernel
theorem dX7_restore_39 : decode cX7_restore 39 = .ok (.istore_n 2, 1) := by decide +kernel
theorem dX7_restore_40 : decode cX7_restore 40 = .ok (.iload_n 2, 1) := by decide +kernel
theorem dX7_restore_41 : decode cX7_restore 41 = .ok (.sipush 165, 3) := by decide +kernel
theorem dX7_restore_44 : decode cX7_restore 44 = .ok (.if_icmp .ge 27, 3) := by decide +kernel
theorem dX7_restore_47 : decode cX7_restore 47 = .ok (.aload_n 0, 1) := by decide +kernel
theorem dX7_restore_48 : decode cX7_restore 48 = .ok (.getfield 7, 3) := by decide +kernel
theorem dX7_restore_51 : decode cX7_restore 51 = .ok (.iload_n 2, 1) := by decide +kernel
theorem dX7_restore_52 : decode cX7_restore 52 = .ok (.aload_n 0, 1) := by decide +kernel
theorem dX7_restore_53 : decode cX7_restore 53 = .ok (.getfield 16, 3) := by decide +kernel
theorem dX7_restore_56 : decode cX7_restore 56 = .ok (.sipush 165, 3) := by decide +kernel
theorem dX7_restore_59 : decode cX7_restore 59 = .ok (.iload_n 1, 1) := by decide +kernel
theorem dX7_restore_60 : decode cX7_restore 60 = .ok (.imul, 1) := by decide +kernel
theorem dX7_restore_61 : decode cX7_restore 61 = .ok (.iload_n 2, 1) := by decide +kernel
theorem dX7_restore_62 : decode cX7_restore 62 = .ok (.iadd, 1) := by decide +kernel
theorem dX7_restore_63 : decode cX7_restore 63 = .ok (.iaload, 1) := by decide +kernel
theorem dX7_restore_64 : decode cX7_restore 64 = .ok (.iastore, 1) := by decide +kernel
theorem dX7_restore_65 : decode cX7_restore 65 = .ok (.iinc 2 1, 3) := by decide +kernel
theorem dX7_restore_68 : decode cX7_restore 68 = .ok (.goto (-28), 3) := by decide +kernel
theorem dX7_restore_71 : decode cX7_restore 71 = .ok (.aload_n 0, 1) := by decide +kernel
theorem dX7_restore_72 : decode cX7_restore 72 = .ok (.aload_n 0, 1) := by decide +kernel
theorem dX7_restore_73 : decode cX7_restore 73 = .ok (.getfield 19, 3) := by decide +kernel
theorem dX7_restore_76 : decode cX7_restore 76 = .ok (.iload_n 1, 1) := by decide +kernel
theorem dX7_restore_77 : decode cX7_restore 77 = .ok (.laload, 1) := by decide +kernel
theorem dX7_restore_78 : decode cX7_restore 78 = .ok (.putfield 91, 3) := by decide +kernel
end
section
theorem dX7_restore_81 : decode cX7_restore 81 = .ok (.return_, 1) := by decide +kernel
theorem dJ9_floorMod_7cf53_0 : decode cJ9_floorMod_7cf53 0 = .ok (.iload_n 0, 1) := by decide +kernel
theorem dJ9_floorMod_7cf53_1 : decode cJ9_floorMod_7cf53 1 = .ok (.iload_n 1, 1) := by decide +kernel
theorem dJ9_floorMod_7cf53_2 : decode cJ9_floorMod_7cf53 2 = .ok (.irem, 1) := by decide +kernel
theorem dJ9_floorMod_7cf53_3 : decode cJ9_floorMod_7cf53 3 = .ok (.istore_n 2, 1) := by decide +kernel
theorem dJ9_floorMod_7cf53_4 : decode cJ9_floorMod_7cf53 4 = .ok (.iload_n 0, 1) := by decide +kernel
theorem dJ9_floorMod_7cf53_5 : decode cJ9_floorMod_7cf53 5 = .ok (.iload_n 1, 1) := by decide +kernel
theorem dJ9_floorMod_7cf53_6 : decode cJ9_floorMod_7cf53 6 = .ok (.ixor, 1) := by decide +kernel
theorem dJ9_floorMod_7cf53_7 : decode cJ9_floorMod_7cf53 7 = .ok (.ifCond .ge 11, 3) := by decide +kernel
theorem dJ9_floorMod_7cf53_10 : decode cJ9_floorMod_7cf53 10 = .ok (.iload_n 2, 1) := by decide +kernel
theorem dJ9_floorMod_7cf53_11 : decode cJ9_floorMod_7cf53 11 = .ok (.ifCond .eq 7, 3) := by decide +kernel
theorem dJ9_floorMod_7cf53_14 : decode cJ9_floorMod_7cf53 14 = .ok (.iload_n 2, 1) := by decide +kernel
theorem dJ9_floorMod_7cf53_15 : decode cJ9_floorMod_7cf53 15 = .ok (.iload_n 1, 1) := by decide +kernel
theorem dJ9_floorMod_7cf53_16 : decode cJ9_floorMod_7cf53 16 = .ok (.iadd, 1) := by decide +kernel
theorem dJ9_floorMod_7cf53_17 : decode cJ9_floorMod_7cf53 17 = .ok (.ireturn, 1) := by decide +kernel
theorem dJ9_floorMod_7cf53_18 : decode cJ9_floorMod_7cf53 18 = .ok (.iload_n 2, 1) := by decide +kernel
theorem dJ9_floorMod_7cf53_19 : decode cJ9_floorMod_7cf53 19 = .ok (.ireturn, 1) := by decide +kernel
theorem dJ9_max_7cf53_0 : decode cJ9_max_7cf53 0 = .ok (.iload_n 0, 1) := by decide +kernel
theorem dJ9_max_7cf53_1 : decode cJ9_max_7cf53 1 = .ok (.iload_n 1, 1) := by decide +kernel
theorem dJ9_max_7cf53_2 : decode cJ9_max_7cf53 2 = .ok (.if_icmp .lt 7, 3) := by decide +kernel
theorem dJ9_max_7cf53_5 : decode cJ9_max_7cf53 5 = .ok (.iload_n 0, 1) := by decide +kernel
theorem dJ9_max_7cf53_6 : decode cJ9_max_7cf53 6 = .ok (.goto 4, 3) := by decide +kernel
theorem dJ9_max_7cf53_9 : decode cJ9_max_7cf53 9 = .ok (.iload_n 1, 1) := by decide +kernel
theorem dJ9_max_7cf53_10 : decode cJ9_max_7cf53 10 = .ok (.ireturn, 1) := by decide +kernel
theorem dJ9_min_7cf53_0 : decode cJ9_min_7cf53 0 = .ok (.iload_n 0, 1) := by decide +kernel
theorem dJ9_min_7cf53_1 : decode cJ9_min_7cf53 1 = .ok (.iload_n 1, 1) := by decide +kernel
theorem dJ9_min_7cf53_2 : decode cJ9_min_7cf53 2 = .ok (.if_icmp .gt 7, 3) := by decide +kernel
theorem dJ9_min_7cf53_5 : decode cJ9_min_7cf53 5 = .ok (.iload_n 0, 1) := by decide +kernel
theorem dJ9_min_7cf53_6 : decode cJ9_min_7cf53 6 = .ok (.goto 4, 3) := by decide +kernel
theorem dJ9_min_7cf53_9 : decode cJ9_min_7cf53 9 = .ok (.iload_n 1, 1) := by decide +kernel
theorem dJ9_min_7cf53_10 : decode cJ9_min_7cf53 10 = .ok (.ireturn, 1) := by decide +kernel
set_option maxRecDepth 20000 in
theorem ggL_setGrid_X6_setGrid : GoodIn wsL_setGrid wsX6_setGrid := goodIn_ca (goodIn_r _ [6, 7, 8, 9, 10, 11, 12, 13, 14, 15, 16, 5, 17, 18, 19, 20, 21, 22, 23, 24, 25, 26, 27, 28, 29, 30, 31, 32, 33, 34, 35] (by decide +kernel) (by decide +kernel)) (goodIn_sub (fun _ h => List.mem_cons_of_mem _ (List.mem_append_right _ h)) (by decide +kernel))
set_option maxRecDepth 20000 in
theorem gL_setGrid_X6_setGrid : GoodIn wsL_setGrid (wsV RL 7 RX6 yX6_setGrid wsX6_setGrid) := goodIn_app (goodIn_of _ (by decide +kernel)) ggL_setGrid_X6_setGrid
theorem dL_setGrid_0 : decode cL_setGrid 0 = .ok (.aload_n 0, 1) := by decide +kernel
theorem dL_setGrid_1 : decode cL_setGrid 1 = .ok (.iload_n 1, 1) := by decide +kernel
theorem dL_setGrid_2 : decode cL_setGrid 2 = .ok (.iload_n 2, 1) := by decide +kernel
theorem dL_setGrid_3 : decode cL_setGrid 3 = .ok (.invokevirtual 7, 3) := by decide +kernel
theorem dL_setGrid_6 : decode cL_setGrid 6 = .ok (.goto 6, 3) := by decide +kernel
theorem dL_setGrid_9 : decode cL_setGrid 9 = .ok (.astore_n 3, 1) := by decide +kernel
theorem dL_setGrid_10 : decode cL_setGrid 10 = .ok (.iconst 1, 1) := by decide +kernel
theorem dL_setGrid_11 : decode cL_setGrid 11 = .ok (.ireturn, 1) := by decide +kernel
theorem dL_setGrid_12 : decode cL_setGrid 12 = .ok (.iconst 0, 1) := by decide +kernel
theorem dL_setGrid_13 : decode cL_setGrid 13 = .ok (.ireturn, 1) := by decide +kernel
set_option maxRecDepth 20000 in
theorem ggL_jump_X6_jump : GoodIn wsL_jump wsX6_jump := goodIn_ca (goodIn_r _ [6, 7, 8, 9, 10, 11, 12, 13, 14, 15, 5, 16, 17, 18, 19, 20, 21, 22, 23, 24, 25, 26, 27, 28, 29, 30, 31, 32, 33, 34, 35, 36, 37, 38, 39, 40, 41, 42, 43, 44, 45] (by decide +kernel) (by decide +kernel)) (goodIn_sub (fun _ h => List.mem_cons_of_mem _ (List.mem_append_right _ h)) (by decide +kernel))
set_option maxRecDepth 20000 in
theorem gL_jump_X6_jump : GoodIn wsL_jump (wsV RL 15 RX6 yX6_jump wsX6_jump) := goodIn_app (goodIn_of _ (by decide +kernel)) ggL_jump_X6_jump
theorem dL_jump_0 : decode cL_jump 0 = .ok (.aload_n 2, 1) := by decide +kernel
theorem dL_jump_1 : decode cL_jump 1 = .ok (.iconst 0, 1) := by decide +kernel
theorem dL_jump_2 : decode cL_jump 2 = .ok (.aload_n 0, 1) := by decide +kernel
theorem dL_jump_3 : decode cL_jump 3 = .ok (.iload_n 1, 1) := by decide +kernel
theorem dL_jump_4 : decode cL_jump 4 = .ok (.invokevirtual 15, 3) := by decide +kernel
theorem dL_jump_7 : decode cL_jump 7 = .ok (.i2l, 1) := by decide +kernel
theorem dL_jump_8 : decode cL_jump 8 = .ok (.lastore, 1) := by decide +kernel
theorem dL_jump_9 : decode cL_jump 9 = .ok (.goto 6, 3) := by decide +kernel
theorem dL_jump_12 : decode cL_jump 12 = .ok (.astore_n 3, 1) := by decide +kernel
theorem dL_jump_13 : decode cL_jump 13 = .ok (.iconst 1, 1) := by decide +kernel
theorem dL_jump_14 : decode cL_jump 14 = .ok (.ireturn, 1) := by decide +kernel
theorem dL_jump_15 : decode cL_jump 15 = .ok (.iconst 0, 1) := by decide +kernel
theorem dL_jump_16 : decode cL_jump 16 = .ok (.ireturn, 1) := by decide +kernel
set_option maxRecDepth 20000 in
theorem ggL_setLoad_X6_setLoad : GoodIn wsL_setLoad wsX6_setLoad := goodIn_ca (goodIn_r _ [6, 7, 8, 9, 10, 11, 12, 5, 13, 14, 15, 16, 17, 18, 19, 20, 21, 22, 23, 24, 25, 26, 27, 28, 29, 30, 31, 32, 33, 34, 35, 36, 37, 38, 39, 40, 41, 42, 43, 44] (by decide +kernel) (by decide +kernel)) (goodIn_sub (fun _ h => List.mem_cons_of_mem _ (List.mem_append_right _ h)) (by decide +kernel))
set_option maxRecDepth 20000 in
theorem gL_setLoad_X6_setLoad : GoodIn wsL_setLoad (wsV RL 19 RX6 yX6_setLoad wsX6_setLoad) := goodIn_app (goodIn_of _ (by decide +kernel)) ggL_setLoad_X6_setLoad
theorem dL_setLoad_0 : decode cL_setLoad 0 = .ok (.aload_n 0, 1) := by decide +kernel
theorem dL_setLoad_1 : decode cL_setLoad 1 = .ok (.iload_n 1, 1) := by decide +kernel
theorem dL_setLoad_2 : decode cL_setLoad 2 = .ok (.iload_n 2, 1) := by decide +kernel
theorem dL_setLoad_3 : decode cL_setLoad 3 = .ok (.iload_n 3, 1) := by decide +kernel
theorem dL_setLoad_4 : decode cL_setLoad 4 = .ok (.invokevirtual 19, 3) := by decide +kernel
theorem dL_setLoad_7 : decode cL_setLoad 7 = .ok (.goto 7, 3) := by decide +kernel
theorem dL_setLoad_10 : decode cL_setLoad 10 = .ok (.astore 4, 2) := by decide +kernel
theorem dL_setLoad_12 : decode cL_setLoad 12 = .ok (.iconst 1, 1) := by decide +kernel
theorem dL_setLoad_13 : decode cL_setLoad 13 = .ok (.ireturn, 1) := by decide +kernel
theorem dL_setLoad_14 : decode cL_setLoad 14 = .ok (.iconst 0, 1) := by decide +kernel
theorem dL_setLoad_15 : decode cL_setLoad 15 = .ok (.ireturn, 1) := by decide +kernel
set_option maxRecDepth 20000 in
theorem ggL_setLoop_X6_setLoop : GoodIn wsL_setLoop wsX6_setLoop := goodIn_ca (goodIn_r _ [6, 7, 8, 9, 10, 11, 12, 13, 14, 5, 15, 16, 17, 18, 19, 20, 21, 22, 23, 24, 25, 26, 27, 28, 29, 30, 31, 32, 33] (by decide +kernel) (by decide +kernel)) (goodIn_sub (fun _ h => List.mem_cons_of_mem _ (List.mem_append_right _ h)) (by decide +kernel))
set_option maxRecDepth 20000 in
theorem gL_setLoop_X6_setLoop : GoodIn wsL_setLoop (wsV RL 23 RX6 yX6_setLoop wsX6_setLoop) := goodIn_app (goodIn_of _ (by decide +kernel)) ggL_setLoop_X6_setLoop
theorem dL_setLoop_0 : decode cL_setLoop 0 = .ok (.aload_n 0, 1) := by decide +kernel
theorem dL_setLoop_1 : decode cL_setLoop 1 = .ok (.iload_n 1, 1) := by decide +kernel
theorem dL_setLoop_2 : decode cL_setLoop 2 = .ok (.iload_n 2, 1) := by decide +kernel
theorem dL_setLoop_3 : decode cL_setLoop 3 = .ok (.invokevirtual 23, 3) := by decide +kernel
theorem dL_setLoop_6 : decode cL_setLoop 6 = .ok (.goto 6, 3) := by decide +kernel
theorem dL_setLoop_9 : decode cL_setLoop 9 = .ok (.astore_n 3, 1) := by decide +kernel
theorem dL_setLoop_10 : decode cL_setLoop 10 = .ok (.iconst 1, 1) := by decide +kernel
theorem dL_setLoop_11 : decode cL_setLoop 11 = .ok (.ireturn, 1) := by decide +kernel
theorem dL_setLoop_12 : decode cL_setLoop 12 = .ok (.iconst 0, 1) := by decide +kernel
theorem dL_setLoop_13 : decode cL_setLoop 13 = .ok (.ireturn, 1) := by decide +kernel
set_option maxRecDepth 20000 in
theorem ggL_setLock_X6_setLock : GoodIn wsL_setLock wsX6_setLock := goodIn_ca (goodIn_r _ [6, 7, 8, 9, 10, 11, 12, 13, 14, 15, 5, 16, 17, 18, 19, 20, 21, 22, 23, 24, 25, 26, 27, 28, 29, 30, 31, 32, 33, 34] (by decide +kernel) (by decide +kernel)) (goodIn_sub (fun _ h => List.mem_cons_of_mem _ (List.mem_append_right _ h)) (by decide +kernel))
set_option maxRecDepth 20000 in
theorem gL_setLock_X6_setLock : GoodIn wsL_setLock (wsV RL 26 RX6 yX6_setLock wsX6_setLock) := goodIn_app (goodIn_of _ (by decide +kernel)) ggL_setLock_X6_setLock
theorem dL_setLock_0 : decode cL_setLock 0 = .ok (.aload_n 0, 1) := by decide +kernel
theorem dL_setLock_1 : decode cL_setLock 1 = .ok (.iload_n 1, 1) := by decide +kernel
theorem dL_setLock_2 : decode cL_setLock 2 = .ok (.iload_n 2, 1) := by decide +kernel
theorem dL_setLock_3 : decode cL_setLock 3 = .ok (.invokevirtual 26, 3) := by decide +kernel
theorem dL_setLock_6 : decode cL_setLock 6 = .ok (.goto 6, 3) := by decide +kernel
theorem dL_setLock_9 : decode cL_setLock 9 = .ok (.astore_n 3, 1) := by decide +kernel
theorem dL_setLock_10 : decode cL_setLock 10 = .ok (.iconst 1, 1) := by decide +kernel
theorem dL_setLock_11 : decode cL_setLock 11 = .ok (.ireturn, 1) := by decide +kernel
theorem dL_setLock_12 : decode cL_setLock 12 = .ok (.iconst 0, 1) := by decide +kernel
theorem dL_setLock_13 : decode cL_setLock 13 = .ok (.ireturn, 1) := by decide +kernel
set_option maxRecDepth 20000 in
theorem ggL_setWindow_X6_setWindow : GoodIn wsL_setWindow wsX6_setWindow := goodIn_ca (goodIn_r _ [6, 7, 8, 9, 10, 11, 12, 13, 14, 15, 16, 17, 18, 5, 19, 20, 21, 22, 23, 24, 25, 26, 27, 28, 29, 30, 31, 32, 33, 34, 35, 36, 37, 38, 39, 40, 41, 42] (by decide +kernel) (by decide +kernel)) (goodIn_sub (fun _ h => List.mem_cons_of_mem _ (List.mem_append_right _ h)) (by decide +kernel))
set_option maxRecDepth 20000 in
theorem gL_setWindow_X6_setWindow : GoodIn wsL_setWindow (wsV RL 29 RX6 yX6_setWindow wsX6_setWindow) := goodIn_app (goodIn_of _ (by decide +kernel)) ggL_setWindow_X6_setWindow
theorem dL_setWindow_0 : decode cL_setWindow 0 = .ok (.aload_n 0, 1) := by decide +kernel
theorem dL_setWindow_1 : decode cL_setWindow 1 = .ok (.iload_n 1, 1) := by decide +kernel
theorem dL_setWindow_2 : decode cL_setWindow 2 = .ok (.iload_n 2, 1) := by decide +kernel
theorem dL_setWindow_3 : decode cL_setWindow 3 = .ok (.iload_n 3, 1) := by decide +kernel
theorem dL_setWindow_4 : decode cL_setWindow 4 = .ok (.iload 4, 2) := by decide +kernel
theorem dL_setWindow_6 : decode cL_setWindow 6 = .ok (.invokevirtual 29, 3) := by decide +kernel
theorem dL_setWindow_9 : decode cL_setWindow 9 = .ok (.goto 7, 3) := by decide +kernel
theorem dL_setWindow_12 : decode cL_setWindow 12 = .ok (.astore 5, 2) := by decide +kernel
theorem dL_setWindow_14 : decode cL_setWindow 14 = .ok (.iconst 1, 1) := by decide +kernel
theorem dL_setWindow_15 : decode cL_setWindow 15 = .ok (.ireturn, 1) := by decide +kernel
theorem dL_setWindow_16 : decode cL_setWindow 16 = .ok (.iconst 0, 1) := by decide +kernel
theorem dL_setWindow_17 : decode cL_setWindow 17 = .ok (.ireturn, 1) := by decide +kernel
set_option maxRecDepth 20000 in
theorem ggL_setPower_X6_setPower : GoodIn wsL_setPower wsX6_setPower := goodIn_ca (goodIn_r _ [6, 7, 8, 9, 10, 11, 12, 13, 14, 15, 5, 16, 17, 18, 19, 20, 21, 22, 23, 24, 25, 26, 27, 28, 29, 30, 31, 32, 33, 34, 35, 36, 37, 38, 39] (by decide +kernel) (by decide +kernel)) (goodIn_sub (fun _ h => List.mem_cons_of_mem _ (List.mem_append_right _ h)) (by decide +kernel))
set_option maxRecDepth 20000 in
theorem gL_setPower_X6_setPower : GoodIn wsL_setPower (wsV RL 33 RX6 yX6_setPower wsX6_setPower) := goodIn_app (goodIn_of _ (by decide +kernel)) ggL_setPower_X6_setPower
theorem dL_setPower_0 : decode cL_setPower 0 = .ok (.aload_n 0, 1) := by decide +kernel
theorem dL_setPower_1 : decode cL_setPower 1 = .ok (.iload_n 1, 1) := by decide +kernel
theorem dL_setPower_2 : decode cL_setPower 2 = .ok (.iload_n 2, 1) := by decide +kernel
theorem dL_setPower_3 : decode cL_setPower 3 = .ok (.iload_n 3, 1) := by decide +kernel
theorem dL_setPower_4 : decode cL_setPower 4 = .ok (.invokevirtual 33, 3) := by decide +kernel
theorem dL_setPower_7 : decode cL_setPower 7 = .ok (.goto 7, 3) := by decide +kernel
theorem dL_setPower_10 : decode cL_setPower 10 = .ok (.astore 4, 2) := by decide +kernel
theorem dL_setPower_12 : decode cL_setPower 12 = .ok (.iconst 1, 1) := by decide +kernel
theorem dL_setPower_13 : decode cL_setPower 13 = .ok (.ireturn, 1) := by decide +kernel
theorem dL_setPower_14 : decode cL_setPower 14 = .ok (.iconst 0, 1) := by decide +kernel
theorem dL_setPower_15 : decode cL_setPower 15 = .ok (.ireturn, 1) := by decide +kernel
set_option maxRecDepth 20000 in
theorem ggL_setDrift_X6_setDrift : GoodIn wsL_setDrift wsX6_setDrift := goodIn_ca (goodIn_r _ [6, 7, 8, 9, 10, 11, 12, 13, 14, 5, 15, 16, 17, 18, 19, 20, 21, 22, 23, 24, 25, 26, 27, 28, 29, 30, 31, 32, 33, 34, 35, 36, 37, 38] (by decide +kernel) (by decide +kernel)) (goodIn_sub (fun _ h => List.mem_cons_of_mem _ (List.mem_append_right _ h)) (by decide +kernel))
set_option maxRecDepth 20000 in
theorem gL_setDrift_X6_setDrift : GoodIn wsL_setDrift (wsV RL 36 RX6 yX6_setDrift wsX6_setDrift) := goodIn_app (goodIn_of _ (by decide +kernel)) ggL_setDrift_X6_setDrift
theorem dL_setDrift_0 : decode cL_setDrift 0 = .ok (.aload_n 0, 1) := by decide +kernel
theorem dL_setDrift_1 : decode cL_setDrift 1 = .ok (.iload_n 1, 1) := by decide +kernel
theorem dL_setDrift_2 : decode cL_setDrift 2 = .ok (.iload_n 2, 1) := by decide +kernel
theorem dL_setDrift_3 : decode cL_setDrift 3 = .ok (.invokevirtual 36, 3) := by decide +kernel
theorem dL_setDrift_6 : decode cL_setDrift 6 = .ok (.goto 6, 3) := by decide +kernel
theorem dL_setDrift_9 : decode cL_setDrift 9 = .ok (.astore_n 3, 1) := by decide +kernel
theorem dL_setDrift_10 : decode cL_setDrift 10 = .ok (.iconst 1, 1) := by decide +kernel
theorem dL_setDrift_11 : decode cL_setDrift 11 = .ok (.ireturn, 1) := by decide +kernel
theorem dL_setDrift_12 : decode cL_setDrift 12 = .ok (.iconst 0, 1) := by decide +kernel
theorem dL_setDrift_13 : decode cL_setDrift 13 = .ok (.ireturn, 1) := by decide +kernel
set_option maxRecDepth 20000 in
theorem ggL_addRule_X6_addRule : GoodIn wsL_addRule wsX6_addRule := goodIn_ca (goodIn_ca (goodIn_r _ [7, 8, 9, 10, 11, 12, 13, 14, 15, 16, 6, 17, 18, 19, 20, 21, 22, 23, 24, 25, 26, 27, 28, 29, 30, 31, 32, 33, 34, 35, 36, 37, 38, 39, 40, 41] (by decide +kernel) (by decide +kernel)) (goodIn_sub (fun _ h => List.mem_cons_of_mem _ (List.mem_append_left _ (List.mem_append_right _ h))) (by decide +kernel))) (goodIn_sub (fun _ h => List.mem_cons_of_mem _ (List.mem_append_right _ h)) (by decide +kernel))
set_option maxRecDepth 20000 in
theorem gL_addRule_X6_addRule : GoodIn wsL_addRule (wsV RL 39 RX6 yX6_addRule wsX6_addRule) := goodIn_app (goodIn_of _ (by decide +kernel)) ggL_addRule_X6_addRule
theorem dL_addRule_0 : decode cL_addRule 0 = .ok (.aload 4, 2) := by decide +kernel
theorem dL_addRule_2 : decode cL_addRule 2 = .ok (.iconst 0, 1) := by decide +kernel
theorem dL_addRule_3 : decode cL_addRule 3 = .ok (.aload_n 0, 1) := by decide +kernel
theorem dL_addRule_4 : decode cL_addRule 4 = .ok (.iload_n 1, 1) := by decide +kernel
theorem dL_addRule_5 : decode cL_addRule 5 = .ok (.iload_n 2, 1) := by decide +kernel
theorem dL_addRule_6 : decode cL_addRule 6 = .ok (.iload_n 3, 1) := by decide +kernel
theorem dL_addRule_7 : decode cL_addRule 7 = .ok (.invokevirtual 39, 3) := by decide +kernel
theorem dL_addRule_10 : decode cL_addRule 10 = .ok (.i2l, 1) := by decide +kernel
theorem dL_addRule_11 : decode cL_addRule 11 = .ok (.lastore, 1) := by decide +kernel
theorem dL_addRule_12 : decode cL_addRule 12 = .ok (.goto 11, 3) := by decide +kernel
theorem dL_addRule_15 : decode cL_addRule 15 = .ok (.astore 5, 2) := by decide +kernel
theorem dL_addRule_17 : decode cL_addRule 17 = .ok (.iconst 1, 1) := by decide +kernel
theorem dL_addRule_18 : decode cL_addRule 18 = .ok (.ireturn, 1) := by decide +kernel
theorem dL_addRule_19 : decode cL_addRule 19 = .ok (.astore 5, 2) := by decide +kernel
theorem dL_addRule_21 : decode cL_addRule 21 = .ok (.iconst 2, 1) := by decide +kernel
theorem dL_addRule_22 : decode cL_addRule 22 = .ok (.ireturn, 1) := by decide +kernel
theorem dL_addRule_23 : decode cL_addRule 23 = .ok (.iconst 0, 1) := by decide +kernel
theorem dL_addRule_24 : decode cL_addRule 24 = .ok (.ireturn, 1) := by decide +kernel
set_option maxRecDepth 20000 in
theorem ggL_advance_X6_advance : GoodIn wsL_advance wsX6_advance := goodIn_ca (goodIn_r _ [6, 7, 8, 9, 10, 11, 12, 5, 13, 14, 15, 16, 17, 18, 19, 20, 21, 22, 23, 24, 25, 26, 27, 28, 29, 30, 31, 32, 33, 34, 35, 36, 37, 38, 39, 40, 41, 42, 43, 44, 45, 46, 47, 48, 49, 50, 51, 52, 53, 54, 55, 56, 57, 58, 59, 60, 61, 62, 63, 64, 65, 66, 67, 68, 69, 70, 71, 72, 73, 74, 75, 76, 77, 78, 79, 80, 81, 82, 83, 84, 85, 86, 87, 88, 89, 90, 91, 92, 93, 94, 95, 96, 97, 98, 99, 100, 101, 102, 103, 104, 105, 106, 107, 108, 109, 110, 111, 112, 113, 114, 115, 116, 117, 118, 119, 120, 121, 122, 123, 124, 125, 126, 127, 128, 129, 130, 131, 132, 133, 134, 135, 136, 137, 138, 139, 140, 141, 142, 143, 144, 145, 146, 147, 148, 149, 150, 151, 152, 153, 154, 155, 156, 157, 158, 159, 160, 161, 162, 163, 164, 165, 166, 167, 168, 169, 170, 171, 172, 173, 174, 175, 176, 177, 178, 179, 180, 181, 182, 183, 184, 185, 186, 187, 188, 189, 190, 191, 192, 193, 194, 195, 196, 197, 198, 199, 200, 201, 202, 203, 204, 205, 206, 207, 208, 209, 210, 211, 212, 213, 214, 215, 216, 217, 218] (by decide +kernel) (by decide +kernel)) (goodIn_sub (fun _ h => List.mem_cons_of_mem _ (List.mem_append_right _ h)) (by decide +kernel))
set_option maxRecDepth 20000 in
theorem gL_advance_X6_advance : GoodIn wsL_advance (wsV RL 45 RX6 yX6_advance wsX6_advance) := goodIn_app (goodIn_of _ (by decide +kernel)) ggL_advance_X6_advance
theorem dL_advance_0 : decode cL_advance 0 = .ok (.aload_n 2, 1) := by decide +kernel
theorem dL_advance_1 : decode cL_advance 1 = .ok (.iconst 0, 1) := by decide +kernel
theorem dL_advance_2 : decode cL_advance 2 = .ok (.aload_n 0, 1) := by decide +kernel
theorem dL_advance_3 : decode cL_advance 3 = .ok (.iload_n 1, 1) := by decide +kernel
theorem dL_advance_4 : decode cL_advance 4 = .ok (.invokevirtual 45, 3) := by decide +kernel
theorem dL_advance_7 : decode cL_advance 7 = .ok (.i2l, 1) := by decide +kernel
theorem dL_advance_8 : decode cL_advance 8 = .ok (.lastore, 1) := by decide +kernel
theorem dL_advance_9 : decode cL_advance 9 = .ok (.goto 6, 3) := by decide +kernel
theorem dL_advance_12 : decode cL_advance 12 = .ok (.astore_n 3, 1) := by decide +kernel
theorem dL_advance_13 : decode cL_advance 13 = .ok (.iconst 1, 1) := by decide +kernel
theorem dL_advance_14 : decode cL_advance 14 = .ok (.ireturn, 1) := by decide +kernel
theorem dL_advance_15 : decode cL_advance 15 = .ok (.iconst 0, 1) := by decide +kernel
theorem dL_advance_16 : decode cL_advance 16 = .ok (.ireturn, 1) := by decide +kernel
set_option maxRecDepth 20000 in
theorem ggL_measure_X6_measure : GoodIn wsL_measure wsX6_measure := goodIn_ca (goodIn_r _ [6, 7, 8, 9, 10, 11, 12, 13, 14, 15, 16, 17, 18, 19, 20, 21, 22, 23, 24, 25, 26, 27, 28, 29, 30, 31, 32, 33, 34, 35, 36, 37, 38, 39, 40, 41, 42, 43, 44, 45, 46, 47, 48, 49, 50, 51, 52, 53, 54, 55, 56, 57, 58, 59, 60, 61, 62, 63] (by decide +kernel) (by decide +kernel)) (goodIn_sub (fun _ h => List.mem_cons_of_mem _ (List.mem_append_right _ h)) (by decide +kernel))
set_option maxRecDepth 20000 in
theorem gL_measure_X6_measure : GoodIn wsL_measure (wsV RL 48 RX6 yX6_measure wsX6_measure) := goodIn_app (goodIn_of _ (by decide +kernel)) ggL_measure_X6_measure
theorem dL_measure_0 : decode cL_measure 0 = .ok (.aload_n 2, 1) := by decide +kernel
theorem dL_measure_1 : decode cL_measure 1 = .ok (.iconst 0, 1) := by decide +kernel
theorem dL_measure_2 : decode cL_measure 2 = .ok (.aload_n 0, 1) := by decide +kernel
theorem dL_measure_3 : decode cL_measure 3 = .ok (.iload_n 1, 1) := by decide +kernel
theorem dL_measure_4 : decode cL_measure 4 = .ok (.invokevirtual 48, 3) := by decide +kernel
theorem dL_measure_7 : decode cL_measure 7 = .ok (.i2l, 1) := by decide +kernel
theorem dL_measure_8 : decode cL_measure 8 = .ok (.lastore, 1) := by decide +kernel
theorem dL_measure_9 : decode cL_measure 9 = .ok (.goto 6, 3) := by decide +kernel
theorem dL_measure_12 : decode cL_measure 12 = .ok (.astore_n 3, 1) := by decide +kernel
theorem dL_measure_13 : decode cL_measure 13 = .ok (.iconst 1, 1) := by decide +kernel
theorem dL_measure_14 : decode cL_measure 14 = .ok (.ireturn, 1) := by decide +kernel
theorem dL_measure_15 : decode cL_measure 15 = .ok (.iconst 0, 1) := by decide +kernel
theorem dL_measure_16 : decode cL_measure 16 = .ok (.ireturn, 1) := by decide +kernel
set_option maxRecDepth 20000 in
theorem ggL_violations_X6_violations : GoodIn wsL_violations wsX6_violations := goodIn_ca (goodIn_r _ [6, 7, 8, 9, 10, 11, 12, 13, 14, 15, 16, 17, 18, 19, 20, 21, 22, 23, 24, 25, 26, 27, 28, 29, 30, 31] (by decide +kernel) (by decide +kernel)) (goodIn_sub (fun _ h => List.mem_cons_of_mem _ (List.mem_append_right _ h)) (by decide +kernel))
set_option maxRecDepth 20000 in
theorem gL_violations_X6_violations : GoodIn wsL_violations (wsV RL 51 RX6 yX6_violations wsX6_violations) := goodIn_app (goodIn_of _ (by decide +kernel)) ggL_violations_X6_violations
theorem dL_violations_0 : decode cL_violations 0 = .ok (.aload_n 2, 1) := by decide +kernel
theorem dL_violations_1 : decode cL_violations 1 = .ok (.iconst 0, 1) := by decide +kernel
theorem dL_violations_2 : decode cL_violations 2 = .ok (.aload_n 0, 1) := by decide +kernel
theorem dL_violations_3 : decode cL_violations 3 = .ok (.iload_n 1, 1) := by decide +kernel
theorem dL_violations_4 : decode cL_violations 4 = .ok (.invokevirtual 51, 3) := by decide +kernel
theorem dL_violations_7 : decode cL_violations 7 = .ok (.i2l, 1) := by decide +kernel
theorem dL_violations_8 : decode cL_violations 8 = .ok (.lastore, 1) := by decide +kernel
theorem dL_violations_9 : decode cL_violations 9 = .ok (.goto 6, 3) := by decide +kernel
theorem dL_violations_12 : decode cL_violations 12 = .ok (.astore_n 3, 1) := by decide +kernel
theorem dL_violations_13 : decode cL_violations 13 = .ok (.iconst 1, 1) := by decide +kernel
theorem dL_violations_14 : decode cL_violations 14 = .ok (.ireturn, 1) := by decide +kernel
theorem dL_violations_15 : decode cL_violations 15 = .ok (.iconst 0, 1) := by decide +kernel
theorem dL_violations_16 : decode cL_violations 16 = .ok (.ireturn, 1) := by decide +kernel
set_option maxRecDepth 20000 in
theorem ggL_event_X6_event : GoodIn wsL_event wsX6_event := goodIn_ca (goodIn_r _ [6, 7, 8, 9, 10, 11, 12, 5, 13, 14, 15, 16, 17, 18, 19, 20, 21, 22, 23, 24, 25, 26, 27, 28, 29, 30, 31, 32, 33, 34, 35, 36, 37, 38, 39, 40, 41, 42, 43, 44, 45] (by decide +kernel) (by decide +kernel)) (goodIn_sub (fun _ h => List.mem_cons_of_mem _ (List.mem_append_right _ h)) (by decide +kernel))
set_option maxRecDepth 20000 in
theorem gL_event_X6_event : GoodIn wsL_event (wsV RL 56 RX6 yX6_event wsX6_event) := goodIn_app (goodIn_of _ (by decide +kernel)) ggL_event_X6_event
theorem dL_event_0 : decode cL_event 0 = .ok (.aload_n 3, 1) := by decide +kernel
theorem dL_event_1 : decode cL_event 1 = .ok (.iconst 0, 1) := by decide +kernel
theorem dL_event_2 : decode cL_event 2 = .ok (.aload_n 0, 1) := by decide +kernel
theorem dL_event_3 : decode cL_event 3 = .ok (.iload_n 1, 1) := by decide +kernel
theorem dL_event_4 : decode cL_event 4 = .ok (.iload_n 2, 1) := by decide +kernel
theorem dL_event_5 : decode cL_event 5 = .ok (.invokevirtual 56, 3) := by decide +kernel
theorem dL_event_8 : decode cL_event 8 = .ok (.i2l, 1) := by decide +kernel
theorem dL_event_9 : decode cL_event 9 = .ok (.lastore, 1) := by decide +kernel
theorem dL_event_10 : decode cL_event 10 = .ok (.goto 7, 3) := by decide +kernel
theorem dL_event_13 : decode cL_event 13 = .ok (.astore 4, 2) := by decide +kernel
theorem dL_event_15 : decode cL_event 15 = .ok (.iconst 1, 1) := by decide +kernel
theorem dL_event_16 : decode cL_event 16 = .ok (.ireturn, 1) := by decide +kernel
theorem dL_event_17 : decode cL_event 17 = .ok (.iconst 0, 1) := by decide +kernel
theorem dL_event_18 : decode cL_event 18 = .ok (.ireturn, 1) := by decide +kernel
set_option maxRecDepth 20000 in
theorem ggL_islandTime_X6_islandTime : GoodIn wsL_islandTime wsX6_islandTime := goodIn_ca (goodIn_ca (goodIn_r _ [7, 8, 9, 10, 11, 12, 13, 14, 15, 16, 6, 17, 18, 19, 20, 21, 22, 23, 24, 25, 26, 27, 28, 29, 30, 31, 32, 33, 34, 35, 36, 37, 38, 39, 40, 41, 42, 43, 44, 45, 46, 47, 48, 49, 50, 51, 52, 53, 54, 55, 56, 57, 58, 59, 60, 61, 62, 63, 64, 65, 66, 67, 68, 69, 70, 71, 72, 73, 74, 75, 76, 77, 78, 79, 80, 81, 82, 83, 84, 85, 86, 87, 88, 89, 90, 91, 92, 93, 94, 95, 96, 97, 98, 99, 100, 101, 102, 103, 104, 105, 106, 107, 108, 109, 110, 111, 112, 113, 114, 115, 116, 117, 118, 119, 120, 121, 122, 123, 124, 125, 126, 127, 128, 129, 130, 131, 132, 133, 134, 135, 136, 137, 138, 139, 140, 141, 142, 143, 144, 145, 146, 147, 148, 149, 150, 151, 152, 153, 154, 155, 156, 157, 158, 159, 160, 161, 162, 163, 164, 165, 166, 167, 168, 169, 170, 171, 172, 173, 174, 175, 176, 177, 178, 179, 180, 181, 182, 183, 184, 185, 186, 187, 188, 189, 190, 191, 192, 193, 194, 195, 196, 197, 198, 199, 200, 201, 202, 203, 204, 205, 206, 207, 208, 209, 210, 211, 212, 213, 214, 215, 216, 217, 218, 219, 220, 221, 222, 223, 224, 225, 226, 227, 228, 229, 230, 231, 232, 233, 234, 235, 236, 237, 238, 239, 240, 241, 242, 243, 244, 245, 246, 247, 248, 249, 250, 251, 252, 253, 254, 255, 256, 257, 258, 259, 260, 261, 262, 263, 264, 265, 266, 267, 268, 269, 270, 271] (by decide +kernel) (by decide +kernel)) (goodIn_sub (fun _ h => List.mem_cons_of_mem _ (List.mem_append_left _ (List.mem_append_right _ h))) (by decide +kernel))) (goodIn_sub (fun _ h => List.mem_cons_of_mem _ (List.mem_append_right _ h)) (by decide +kernel))
set_option maxRecDepth 20000 in
theorem gL_islandTime_X6_islandTime : GoodIn wsL_islandTime (wsV RL 60 RX6 yX6_islandTime wsX6_islandTime) := goodIn_app (goodIn_of _ (by decide +kernel)) ggL_islandTime_X6_islandTime
theorem dL_islandTime_0 : decode cL_islandTime 0 = .ok (.aload 5, 2) := by decide +kernel
theorem dL_islandTime_2 : decode cL_islandTime 2 = .ok (.iconst 0, 1) := by decide +kernel
theorem dL_islandTime_3 : decode cL_islandTime 3 = .ok (.aload_n 0, 1) := by decide +kernel
theorem dL_islandTime_4 : decode cL_islandTime 4 = .ok (.iload_n 1, 1) := by decide +kernel
theorem dL_islandTime_5 : decode cL_islandTime 5 = .ok (.iload_n 2, 1) := by decide +kernel
theorem dL_islandTime_6 : decode cL_islandTime 6 = .ok (.iload_n 3, 1) := by decide +kernel
theorem dL_islandTime_7 : decode cL_islandTime 7 = .ok (.iload 4, 2) := by decide +kernel
theorem dL_islandTime_9 : decode cL_islandTime 9 = .ok (.invokevirtual 60, 3) := by decide +kernel
theorem dL_islandTime_12 : decode cL_islandTime 12 = .ok (.i2l, 1) := by decide +kernel
theorem dL_islandTime_13 : decode cL_islandTime 13 = .ok (.lastore, 1) := by decide +kernel
theorem dL_islandTime_14 : decode cL_islandTime 14 = .ok (.goto 11, 3) := by decide +kernel
theorem dL_islandTime_17 : decode cL_islandTime 17 = .ok (.astore 6, 2) := by decide +kernel
theorem dL_islandTime_19 : decode cL_islandTime 19 = .ok (.iconst 1, 1) := by decide +kernel
theorem dL_islandTime_20 : decode cL_islandTime 20 = .ok (.ireturn, 1) := by decide +kernel
theorem dL_islandTime_21 : decode cL_islandTime 21 = .ok (.astore 6, 2) := by decide +kernel
theorem dL_islandTime_23 : decode cL_islandTime 23 = .ok (.iconst 2, 1) := by decide +kernel
theorem dL_islandTime_24 : decode cL_islandTime 24 = .ok (.ireturn, 1) := by decide +kernel
theorem dL_islandTime_25 : decode cL_islandTime 25 = .ok (.iconst 0, 1) := by decide +kernel
theorem dL_islandTime_26 : decode cL_islandTime 26 = .ok (.ireturn, 1) := by decide +kernel
set_option maxRecDepth 20000 in
theorem ggL_undetected_X6_undetected : GoodIn wsL_undetected wsX6_undetected := goodIn_ca (goodIn_ca (goodIn_r _ [7, 8, 9, 10, 11, 12, 13, 14, 15, 16, 17, 18, 19, 6, 20, 21, 22, 23, 24, 25, 26, 27, 28, 29, 30, 31, 32, 33, 34, 35, 36, 37, 38, 39, 40, 41, 42, 43, 44, 45, 46, 47, 48, 49, 50, 51, 52, 53, 54, 55, 56, 57, 58, 59, 60, 61, 62, 63, 64, 65, 66, 67, 68, 69, 70, 71, 72, 73, 74, 75, 76, 77, 78, 79, 80, 81, 82, 83, 84, 85, 86, 87, 88, 89, 90, 91, 92, 93, 94, 95, 96, 97, 98, 99, 100, 101, 102, 103, 104, 105, 106, 107, 108, 109, 110, 111, 112, 113, 114, 115, 116, 117, 118, 119, 120, 121, 122, 123, 124, 125, 126, 127, 128, 129, 130, 131, 132, 133, 134, 135, 136, 137, 138, 139, 140, 141, 142, 143, 144, 145, 146, 147, 148, 149, 150, 151, 152, 153, 154, 155, 156, 157, 158, 159, 160, 161, 162, 163, 164, 165, 166, 167, 168, 169, 170, 171, 172, 173, 174, 175, 176, 177, 178, 179, 180, 181, 182, 183, 184, 185, 186, 187, 188, 189, 190, 191, 192, 193, 194, 195, 196, 197, 198, 199, 200, 201, 202, 203, 204, 205, 206, 207, 208, 209, 210, 211, 212, 213, 214, 215, 216, 217, 218, 219, 220, 221, 222, 223, 224, 225, 226, 227, 228, 229, 230, 231, 232, 233, 234, 235, 236, 237, 238, 239, 240, 241, 242, 243, 244, 245, 246, 247, 248, 249, 250, 251, 252, 253, 254, 255, 256, 257, 258, 259, 260, 261, 262, 263, 264, 265, 266, 267, 268] (by decide +kernel) (by decide +kernel)) (goodIn_sub (fun _ h => List.mem_cons_of_mem _ (List.mem_append_left _ (List.mem_append_right _ h))) (by decide +kernel))) (goodIn_sub (fun _ h => List.mem_cons_of_mem _ (List.mem_append_right _ h)) (by decide +kernel))
set_option maxRecDepth 20000 in
theorem gL_undetected_X6_undetected : GoodIn wsL_undetected (wsV RL 64 RX6 yX6_undetected wsX6_undetected) := goodIn_app (goodIn_of _ (by decide +kernel)) ggL_undetected_X6_undetected
theorem dL_undetected_0 : decode cL_undetected 0 = .ok (.aload 5, 2) := by decide +kernel
theorem dL_undetected_2 : decode cL_undetected 2 = .ok (.iconst 0, 1) := by decide +kernel
theorem dL_undetected_3 : decode cL_undetected 3 = .ok (.aload_n 0, 1) := by decide +kernel
theorem dL_undetected_4 : decode cL_undetected 4 = .ok (.iload_n 1, 1) := by decide +kernel
theorem dL_undetected_5 : decode cL_undetected 5 = .ok (.iload_n 2, 1) := by decide +kernel
theorem dL_undetected_6 : decode cL_undetected 6 = .ok (.iload_n 3, 1) := by decide +kernel
theorem dL_undetected_7 : decode cL_undetected 7 = .ok (.iload 4, 2) := by decide +kernel
theorem dL_undetected_9 : decode cL_undetected 9 = .ok (.invokevirtual 64, 3) := by decide +kernel
theorem dL_undetected_12 : decode cL_undetected 12 = .ok (.i2l, 1) := by decide +kernel
theorem dL_undetected_13 : decode cL_undetected 13 = .ok (.lastore, 1) := by decide +kernel
theorem dL_undetected_14 : decode cL_undetected 14 = .ok (.goto 11, 3) := by decide +kernel
theorem dL_undetected_17 : decode cL_undetected 17 = .ok (.astore 6, 2) := by decide +kernel
theorem dL_undetected_19 : decode cL_undetected 19 = .ok (.iconst 1, 1) := by decide +kernel
theorem dL_undetected_20 : decode cL_undetected 20 = .ok (.ireturn, 1) := by decide +kernel
theorem dL_undetected_21 : decode cL_undetected 21 = .ok (.astore 6, 2) := by decide +kernel
theorem dL_undetected_23 : decode cL_undetected 23 = .ok (.iconst 2, 1) := by decide +kernel
theorem dL_undetected_24 : decode cL_undetected 24 = .ok (.ireturn, 1) := by decide +kernel
theorem dL_undetected_25 : decode cL_undetected 25 = .ok (.iconst 0, 1) := by decide +kernel
theorem dL_undetected_26 : decode cL_undetected 26 = .ok (.ireturn, 1) := by decide +kernel
set_option maxRecDepth 20000 in
theorem ggL_relockTime_X6_relockTime : GoodIn wsL_relockTime wsX6_relockTime := goodIn_ca (goodIn_r _ [6, 7, 8, 9, 10, 11, 12, 13, 14, 15, 16, 17, 5, 18, 19, 20, 21, 22, 23, 24, 25, 26, 27, 28, 29, 30, 31, 32, 33, 34, 35, 36, 37, 38, 39, 40, 41, 42, 43, 44, 45, 46, 47, 48, 49, 50, 51, 52, 53, 54, 55, 56, 57, 58, 59, 60, 61, 62, 63, 64, 65, 66, 67, 68, 69, 70, 71, 72, 73, 74, 75, 76, 77, 78, 79, 80, 81, 82, 83, 84, 85, 86, 87, 88, 89, 90, 91, 92, 93, 94, 95, 96, 97, 98, 99, 100, 101, 102, 103, 104, 105, 106, 107, 108, 109, 110, 111, 112, 113, 114, 115, 116, 117, 118, 119, 120, 121, 122, 123, 124, 125, 126, 127, 128, 129, 130, 131, 132, 133, 134, 135, 136, 137, 138, 139, 140, 141, 142, 143, 144, 145, 146, 147, 148, 149, 150, 151, 152, 153, 154, 155, 156, 157, 158, 159, 160, 161, 162, 163, 164, 165, 166, 167, 168, 169, 170, 171, 172, 173, 174, 175, 176, 177, 178, 179, 180, 181, 182, 183, 184, 185, 186, 187, 188, 189, 190, 191, 192, 193, 194, 195, 196, 197, 198, 199, 200, 201, 202, 203, 204, 205, 206, 207, 208, 209, 210, 211, 212, 213, 214, 215, 216, 217, 218, 219, 220, 221, 222, 223, 224, 225, 226, 227, 228, 229, 230, 231, 232, 233, 234, 235, 236, 237, 238, 239, 240, 241, 242, 243, 244, 245, 246, 247, 248, 249, 250, 251, 252, 253, 254, 255, 256, 257, 258, 259, 260, 261] (by decide +kernel) (by decide +kernel)) (goodIn_sub (fun _ h => List.mem_cons_of_mem _ (List.mem_append_right _ h)) (by decide +kernel))
set_option maxRecDepth 20000 in
theorem gL_relockTime_X6_relockTime : GoodIn wsL_relockTime (wsV RL 67 RX6 yX6_relockTime wsX6_relockTime) := goodIn_app (goodIn_of _ (by decide +kernel)) ggL_relockTime_X6_relockTime
theorem dL_relockTime_0 : decode cL_relockTime 0 = .ok (.aload_n 3, 1) := by decide +kernel
theorem dL_relockTime_1 : decode cL_relockTime 1 = .ok (.iconst 0, 1) := by decide +kernel
theorem dL_relockTime_2 : decode cL_relockTime 2 = .ok (.aload_n 0, 1) := by decide +kernel
theorem dL_relockTime_3 : decode cL_relockTime 3 = .ok (.iload_n 1, 1) := by decide +kernel
theorem dL_relockTime_4 : decode cL_relockTime 4 = .ok (.iload_n 2, 1) := by decide +kernel
theorem dL_relockTime_5 : decode cL_relockTime 5 = .ok (.invokevirtual 67, 3) := by decide +kernel
theorem dL_relockTime_8 : decode cL_relockTime 8 = .ok (.i2l, 1) := by decide +kernel
theorem dL_relockTime_9 : decode cL_relockTime 9 = .ok (.lastore, 1) := by decide +kernel
theorem dL_relockTime_10 : decode cL_relockTime 10 = .ok (.goto 7, 3) := by decide +kernel
theorem dL_relockTime_13 : decode cL_relockTime 13 = .ok (.astore 4, 2) := by decide +kernel
theorem dL_relockTime_15 : decode cL_relockTime 15 = .ok (.iconst 1, 1) := by decide +kernel
theorem dL_relockTime_16 : decode cL_relockTime 16 = .ok (.ireturn, 1) := by decide +kernel
theorem dL_relockTime_17 : decode cL_relockTime 17 = .ok (.iconst 0, 1) := by decide +kernel
theorem dL_relockTime_18 : decode cL_relockTime 18 = .ok (.ireturn, 1) := by decide +kernel
set_option maxRecDepth 20000 in
theorem ggL_save_X6_save : GoodIn wsL_save wsX6_save := goodIn_ca (goodIn_r _ [6, 7, 8, 9, 10, 11, 12, 13, 14, 15, 5, 16, 17, 18, 19, 20, 21, 22, 23, 24, 25, 26, 27, 28, 29, 30, 31, 32, 33, 34, 35, 36, 37, 38, 39, 40, 41, 42, 43, 44, 45, 46, 47, 48, 49, 50, 51, 52, 53, 54, 55, 56, 57, 58, 59, 60, 61, 62, 63, 64, 65, 66, 67, 68, 69, 70, 71, 72, 73, 74, 75, 76, 77, 78, 79, 80, 81, 82, 83, 84, 85, 86, 87, 88, 89, 90, 91, 92, 93, 94, 95, 96, 97, 98, 99, 100, 101, 102, 103, 104, 105, 106, 107, 108, 109, 110, 111, 112, 113, 114, 115, 116, 117, 118, 119, 120, 121, 122, 123, 124, 125, 126, 127, 128, 129, 130, 131, 132, 133, 134, 135, 136, 137, 138, 139, 140, 141, 142, 143, 144, 145, 146, 147, 148, 149, 150, 151, 152, 153, 154, 155, 156, 157, 158, 159, 160, 161, 162, 163, 164, 165, 166, 167, 168, 169, 170, 171, 172, 173, 174, 175, 176, 177, 178, 179, 180, 181, 182, 183, 184, 185, 186, 187, 188, 189, 190] (by decide +kernel) (by decide +kernel)) (goodIn_sub (fun _ h => List.mem_cons_of_mem _ (List.mem_append_right _ h)) (by decide +kernel))
set_option maxRecDepth 20000 in
theorem gL_save_X6_save : GoodIn wsL_save (wsV RL 70 RX6 yX6_save wsX6_save) := goodIn_app (goodIn_of _ (by decide +kernel)) ggL_save_X6_save
theorem dL_save_0 : decode cL_save 0 = .ok (.aload_n 0, 1) := by decide +kernel
theorem dL_save_1 : decode cL_save 1 = .ok (.iload_n 1, 1) := by decide +kernel
theorem dL_save_2 : decode cL_save 2 = .ok (.invokevirtual 70, 3) := by decide +kernel
theorem dL_save_5 : decode cL_save 5 = .ok (.goto 6, 3) := by decide +kernel
theorem dL_save_8 : decode cL_save 8 = .ok (.astore_n 2, 1) := by decide +kernel
theorem dL_save_9 : decode cL_save 9 = .ok (.iconst 1, 1) := by decide +kernel
theorem dL_save_10 : decode cL_save 10 = .ok (.ireturn, 1) := by decide +kernel
theorem dL_save_11 : decode cL_save 11 = .ok (.iconst 0, 1) := by decide +kernel
theorem dL_save_12 : decode cL_save 12 = .ok (.ireturn, 1) := by decide +kernel
set_option maxRecDepth 20000 in
theorem ggL_restore_X6_restore : GoodIn wsL_restore wsX6_restore := goodIn_ca (goodIn_ca (goodIn_r _ [7, 8, 9, 10, 11, 12, 13, 14, 15, 6, 16, 17, 18, 19, 20, 21, 22, 23, 24, 25, 26, 27, 28, 29, 30, 31, 32, 33, 34, 35, 36, 37, 38, 39, 40, 41, 42, 43, 44, 45, 46, 47, 48, 49, 50, 51, 52, 53, 54, 55, 56, 57, 58, 59, 60, 61, 62, 63, 64, 65, 66, 67, 68, 69, 70, 71, 72, 73, 74, 75, 76, 77, 78, 79, 80, 81, 82, 83, 84, 85, 86, 87, 88, 89, 90, 91, 92, 93, 94, 95, 96, 97, 98, 99, 100, 101, 102, 103, 104, 105, 106, 107, 108, 109, 110, 111, 112, 113, 114, 115, 116, 117, 118, 119, 120, 121, 122, 123, 124, 125, 126, 127, 128, 129, 130, 131, 132, 133, 134, 135, 136, 137, 138, 139, 140, 141, 142, 143, 144, 145, 146, 147, 148, 149, 150, 151, 152, 153, 154, 155] (by decide +kernel) (by decide +kernel)) (goodIn_sub (fun _ h => List.mem_cons_of_mem _ (List.mem_append_left _ (List.mem_append_right _ h))) (by decide +kernel))) (goodIn_sub (fun _ h => List.mem_cons_of_mem _ (List.mem_append_right _ h)) (by decide +kernel))
set_option maxRecDepth 20000 in
theorem gL_restore_X6_restore : GoodIn wsL_restore (wsV RL 74 RX6 yX6_restore wsX6_restore) := goodIn_app (goodIn_of _ (by decide +kernel)) ggL_restore_X6_restore
theorem dL_restore_0 : decode cL_restore 0 = .ok (.aload_n 0, 1) := by decide +kernel
theorem dL_restore_1 : decode cL_restore 1 = .ok (.iload_n 1, 1) := by decide +kernel
theorem dL_restore_2 : decode cL_restore 2 = .ok (.invokevirtual 74, 3) := by decide +kernel
theorem dL_restore_5 : decode cL_restore 5 = .ok (.goto 9, 3) := by decide +kernel
theorem dL_restore_8 : decode cL_restore 8 = .ok (.astore_n 2, 1) := by decide +kernel
theorem dL_restore_9 : decode cL_restore 9 = .ok (.iconst 1, 1) := by decide +kernel
theorem dL_restore_10 : decode cL_restore 10 = .ok (.ireturn, 1) := by decide +kernel
theorem dL_restore_11 : decode cL_restore 11 = .ok (.astore_n 2, 1) := by decide +kernel
theorem dL_restore_12 : decode cL_restore 12 = .ok (.iconst 2, 1) := by decide +kernel
theorem dL_restore_13 : decode cL_restore 13 = .ok (.ireturn, 1) := by decide +kernel
theorem dL_restore_14 : decode cL_restore 14 = .ok (.iconst 0, 1) := by decide +kernel
theorem dL_restore_15 : decode cL_restore 15 = .ok (.ireturn, 1) := by decide +kernel
set_option maxRecDepth 20000 in
theorem ggL_law_X6_init : GoodIn wsL_law wsX6_init := goodIn_r _ [9, 10, 11, 12, 13, 14, 15, 16, 17, 18, 19, 20, 21, 22, 23, 24, 25, 26, 27, 28, 29, 30, 31, 32, 33, 34, 35, 36, 37, 38, 39, 40, 41, 42, 43, 44, 45, 46, 47, 48, 49, 50, 51, 52, 53, 54, 55, 56, 57, 58, 59, 60, 61, 62, 63, 64, 65, 66, 67, 68, 69, 70, 71, 72, 73, 74, 75, 76, 77, 78, 79, 80, 81, 82, 83, 84, 85, 86, 87, 88, 89, 90, 91, 92, 93, 94, 95, 96, 97, 98, 99, 100, 101, 102, 103, 709, 710, 711, 712, 713, 714, 699, 700, 701, 715, 716, 717, 718, 719, 720, 721, 722, 723, 724, 725, 726, 727, 728, 729, 730, 731, 732, 733, 734, 735, 736, 737, 738, 739, 740, 741, 742, 743, 744, 745, 746, 747, 748, 749, 750, 751, 752, 753, 754] (by decide +kernel) (by decide +kernel)
set_option maxRecDepth 20000 in
theorem gL_law_X6_init : GoodIn wsL_law (wsX6_init) := ggL_law_X6_init
set_option maxRecDepth 20000 in
theorem ggL_law_X7_init : GoodIn wsL_law wsX7_init := goodIn_r _ [106, 107, 11, 12, 69, 108, 109, 110, 6, 111, 112, 113, 114, 115, 116, 702, 703, 704, 705, 706, 707, 708] (by decide +kernel) (by decide +kernel)
set_option maxRecDepth 20000 in
theorem gL_law_X7_init : GoodIn wsL_law (wsX7_init) := ggL_law_X7_init
set_option maxRecDepth 20000 in
theorem ggL_law_L_setGrid : GoodIn wsL_law wsL_setGrid := goodIn_ca (goodIn_r _ [120, 121, 122, 123, 124, 2, 125, 126, 127, 128, 129, 16, 130, 131, 132, 133, 134, 135, 699, 700, 701, 709, 710, 711, 712, 713, 714, 715, 716, 717, 718, 719, 720, 721, 722, 723] (by decide +kernel) (by decide +kernel)) (goodIn_sub (fun _ h => List.mem_append_left _ (List.mem_append_left _ (List.mem_append_right _ h))) (by decide +kernel))
set_option maxRecDepth 20000 in
theorem gL_law_L_setGrid : GoodIn wsL_law (va_wsS RL 81 yL_setGrid wsL_setGrid) := goodIn_app (goodIn_of _ (by decide +kernel)) ggL_law_L_setGrid
set_option maxRecDepth 20000 in
theorem ggL_law_X7_setGrid : GoodIn wsL_law wsX7_setGrid := goodIn_r _ [139, 140, 141, 142, 108, 143, 144, 5, 145, 702, 703, 704, 705, 706, 707, 708] (by decide +kernel) (by decide +kernel)
set_option maxRecDepth 20000 in
theorem gL_law_X7_setGrid : GoodIn wsL_law (wsV RL 86 RX7 yX7_setGrid wsX7_setGrid) := goodIn_app (goodIn_of _ (by decide +kernel)) ggL_law_X7_setGrid
set_option maxRecDepth 20000 in
theorem ggL_law_X7_thrown : GoodIn wsL_law wsX7_thrown := goodIn_r _ [149, 142, 702, 703, 704, 705, 706, 707, 708] (by decide +kernel) (by decide +kernel)
set_option maxRecDepth 20000 in
theorem gL_law_X7_thrown : GoodIn wsL_law (wsV RL 87 RX7 yX7_thrown wsX7_thrown) := goodIn_app (goodIn_of _ (by decide +kernel)) ggL_law_X7_thrown
set_option maxRecDepth 20000 in
theorem ggL_law_L_jump : GoodIn wsL_law wsL_jump := goodIn_ca (goodIn_r _ [152, 121, 153, 154, 155, 2, 156, 126, 127, 157, 158, 16, 130, 159, 133, 134, 135, 160, 161, 162, 25, 163, 49, 164, 165, 166, 167, 168, 699, 700, 701, 709, 710, 711, 712, 713, 714, 715, 716, 717, 718, 719, 720, 721, 722, 723] (by decide +kernel) (by decide +kernel)) (goodIn_sub (fun _ h => List.mem_append_left _ (List.mem_append_left _ (List.mem_append_right _ h))) (by decide +kernel))
set_option maxRecDepth 20000 in
theorem gL_law_L_jump : GoodIn wsL_law (va_wsS RL 91 yL_jump wsL_jump) := goodIn_app (goodIn_of _ (by decide +kernel)) ggL_law_L_jump
set_option maxRecDepth 20000 in
theorem ggL_law_X7_jump : GoodIn wsL_law wsX7_jump := goodIn_r _ [172, 173, 174, 142, 108, 143, 144, 5, 145, 175, 176, 177, 178, 702, 703, 704, 705, 706, 707, 708] (by decide +kernel) (by decide +kernel)
set_option maxRecDepth 20000 in
theorem gL_law_X7_jump : GoodIn wsL_law (wsV RL 94 RX7 yX7_jump wsX7_jump) := goodIn_app (goodIn_of _ (by decide +kernel)) ggL_law_X7_jump
set_option maxRecDepth 20000 in
theorem ggL_law_X6_connect : GoodIn wsL_law wsX6_connect := goodIn_r _ [182, 16, 130, 183, 699, 700, 701, 709, 710, 711, 712, 713, 714, 715, 716, 717, 718, 719, 720, 721, 722, 723] (by decide +kernel) (by decide +kernel)
set_option maxRecDepth 20000 in
theorem gL_law_X6_connect : GoodIn wsL_law (wsV RL 95 RX6 yX6_connect wsX6_connect) := goodIn_app (goodIn_of _ (by decide +kernel)) ggL_law_X6_connect
set_option maxRecDepth 20000 in
theorem ggL_law_X7_connect : GoodIn wsL_law wsX7_connect := goodIn_r _ [187, 142, 108, 702, 703, 704, 705, 706, 707, 708] (by decide +kernel) (by decide +kernel)
set_option maxRecDepth 20000 in
theorem gL_law_X7_connect : GoodIn wsL_law (wsV RL 99 RX7 yX7_connect wsX7_connect) := goodIn_app (goodIn_of _ (by decide +kernel)) ggL_law_X7_connect
set_option maxRecDepth 20000 in
theorem ggL_law_L_setLoad : GoodIn wsL_law wsL_setLoad := goodIn_ca (goodIn_r _ [190, 121, 191, 192, 193, 2, 194, 126, 127, 16, 130, 195, 196, 197, 128, 129, 133, 134, 135, 198, 199, 200, 25, 201, 53, 54, 55, 699, 700, 701, 709, 710, 711, 712, 713, 714, 715, 716, 717, 718, 719, 720, 721, 722, 723] (by decide +kernel) (by decide +kernel)) (goodIn_sub (fun _ h => List.mem_append_left _ (List.mem_append_left _ (List.mem_append_right _ h))) (by decide +kernel))
set_option maxRecDepth 20000 in
theorem gL_law_L_setLoad : GoodIn wsL_law (va_wsS RL 100 yL_setLoad wsL_setLoad) := goodIn_app (goodIn_of _ (by decide +kernel)) ggL_law_L_setLoad
set_option maxRecDepth 20000 in
theorem ggL_law_X7_setLoad : GoodIn wsL_law wsX7_setLoad := goodIn_r _ [205, 142, 206, 207, 5, 208, 140, 141, 143, 144, 145, 209, 210, 211, 212, 108, 702, 703, 704, 705, 706, 707, 708] (by decide +kernel) (by decide +kernel)
set_option maxRecDepth 20000 in
theorem gL_law_X7_setLoad : GoodIn wsL_law (wsV RL 103 RX7 yX7_setLoad wsX7_setLoad) := goodIn_app (goodIn_of _ (by decide +kernel)) ggL_law_X7_setLoad
set_option maxRecDepth 20000 in
theorem ggL_law_L_setLoop : GoodIn wsL_law wsL_setLoop := goodIn_ca (goodIn_r _ [215, 121, 216, 217, 218, 2, 219, 126, 127, 16, 220, 221, 222, 133, 134, 135, 699, 700, 701, 709, 710, 711, 712, 713, 714, 724, 725, 726, 727, 728, 729, 730, 731, 732] (by decide +kernel) (by decide +kernel)) (goodIn_sub (fun _ h => List.mem_append_left _ (List.mem_append_left _ (List.mem_append_right _ h))) (by decide +kernel))
set_option maxRecDepth 20000 in
theorem gL_law_L_setLoop : GoodIn wsL_law (va_wsS RL 104 yL_setLoop wsL_setLoop) := goodIn_app (goodIn_of _ (by decide +kernel)) ggL_law_L_setLoop
set_option maxRecDepth 20000 in
theorem ggL_law_X7_setLoop : GoodIn wsL_law wsX7_setLoop := goodIn_r _ [226, 142, 108, 143, 144, 5, 145, 702, 703, 704, 705, 706, 707, 708] (by decide +kernel) (by decide +kernel)
set_option maxRecDepth 20000 in
theorem gL_law_X7_setLoop : GoodIn wsL_law (wsV RL 106 RX7 yX7_setLoop wsX7_setLoop) := goodIn_app (goodIn_of _ (by decide +kernel)) ggL_law_X7_setLoop
set_option maxRecDepth 20000 in
theorem ggL_law_L_setLock : GoodIn wsL_law wsL_setLock := goodIn_ca (goodIn_r _ [229, 121, 230, 231, 232, 2, 233, 126, 127, 234, 16, 220, 235, 236, 133, 134, 135, 699, 700, 701, 709, 710, 711, 712, 713, 714, 724, 725, 726, 727, 728, 729, 730, 731, 732] (by decide +kernel) (by decide +kernel)) (goodIn_sub (fun _ h => List.mem_append_left _ (List.mem_append_left _ (List.mem_append_right _ h))) (by decide +kernel))
set_option maxRecDepth 20000 in
theorem gL_law_L_setLock : GoodIn wsL_law (va_wsS RL 107 yL_setLock wsL_setLock) := goodIn_app (goodIn_of _ (by decide +kernel)) ggL_law_L_setLock
set_option maxRecDepth 20000 in
theorem ggL_law_X7_setLock : GoodIn wsL_law wsX7_setLock := goodIn_r _ [240, 241, 142, 108, 143, 144, 5, 145, 702, 703, 704, 705, 706, 707, 708] (by decide +kernel) (by decide +kernel)
set_option maxRecDepth 20000 in
theorem gL_law_X7_setLock : GoodIn wsL_law (wsV RL 109 RX7 yX7_setLock wsX7_setLock) := goodIn_app (goodIn_of _ (by decide +kernel)) ggL_law_X7_setLock
set_option maxRecDepth 20000 in
theorem ggL_law_L_setWindow : GoodIn wsL_law wsL_setWindow := goodIn_ca (goodIn_r _ [244, 121, 245, 246, 247, 2, 248, 126, 127, 249, 250, 16, 251, 252, 253, 254, 255, 133, 134, 135, 699, 700, 701, 709, 710, 711, 712, 713, 714, 733, 734, 735, 736, 737, 738, 739, 740, 741, 742, 743, 744, 745, 746] (by decide +kernel) (by decide +kernel)) (goodIn_sub (fun _ h => List.mem_append_left _ (List.mem_append_left _ (List.mem_append_right _ h))) (by decide +kernel))
set_option maxRecDepth 20000 in
theorem gL_law_L_setWindow : GoodIn wsL_law (va_wsS RL 110 yL_setWindow wsL_setWindow) := goodIn_app (goodIn_of _ (by decide +kernel)) ggL_law_L_setWindow
set_option maxRecDepth 20000 in
theorem ggL_law_X7_setWindow : GoodIn wsL_law wsX7_setWindow := goodIn_r _ [259, 260, 261, 142, 108, 143, 144, 5, 145, 702, 703, 704, 705, 706, 707, 708] (by decide +kernel) (by decide +kernel)
set_option maxRecDepth 20000 in
theorem gL_law_X7_setWindow : GoodIn wsL_law (wsV RL 113 RX7 yX7_setWindow wsX7_setWindow) := goodIn_app (goodIn_of _ (by decide +kernel)) ggL_law_X7_setWindow
set_option maxRecDepth 20000 in
theorem ggL_law_L_setPower : GoodIn wsL_law wsL_setPower := goodIn_ca (goodIn_r _ [264, 121, 265, 266, 267, 2, 268, 126, 127, 16, 251, 269, 270, 271, 133, 134, 135, 699, 700, 701, 709, 710, 711, 712, 713, 714, 733, 734, 735, 736, 737, 738, 739, 740, 741, 742, 743, 744, 745, 746] (by decide +kernel) (by decide +kernel)) (goodIn_sub (fun _ h => List.mem_append_left _ (List.mem_append_left _ (List.mem_append_right _ h))) (by decide +kernel))
set_option maxRecDepth 20000 in
theorem gL_law_L_setPower : GoodIn wsL_law (va_wsS RL 114 yL_setPower wsL_setPower) := goodIn_app (goodIn_of _ (by decide +kernel)) ggL_law_L_setPower
set_option maxRecDepth 20000 in
theorem ggL_law_X7_setPower : GoodIn wsL_law wsX7_setPower := goodIn_r _ [275, 142, 108, 143, 144, 5, 145, 702, 703, 704, 705, 706, 707, 708] (by decide +kernel) (by decide +kernel)
set_option maxRecDepth 20000 in
theorem gL_law_X7_setPower : GoodIn wsL_law (wsV RL 116 RX7 yX7_setPower wsX7_setPower) := goodIn_app (goodIn_of _ (by decide +kernel)) ggL_law_X7_setPower
set_option maxRecDepth 20000 in
theorem ggL_law_L_setDrift : GoodIn wsL_law wsL_setDrift := goodIn_ca (goodIn_r _ [278, 121, 279, 280, 281, 2, 282, 126, 127, 16, 251, 283, 284, 133, 134, 135, 699, 700, 701, 709, 710, 711, 712, 713, 714, 733, 734, 735, 736, 737, 738, 739, 740, 741, 742, 743, 744, 745, 746] (by decide +kernel) (by decide +kernel)) (goodIn_sub (fun _ h => List.mem_append_left _ (List.mem_append_left _ (List.mem_append_right _ h))) (by decide +kernel))
set_option maxRecDepth 20000 in
theorem gL_law_L_setDrift : GoodIn wsL_law (va_wsS RL 117 yL_setDrift wsL_setDrift) := goodIn_app (goodIn_of _ (by decide +kernel)) ggL_law_L_setDrift
set_option maxRecDepth 20000 in
theorem ggL_law_X7_setDrift : GoodIn wsL_law wsX7_setDrift := goodIn_r _ [288, 142, 108, 143, 144, 5, 145, 702, 703, 704, 705, 706, 707, 708] (by decide +kernel) (by decide +kernel)
set_option maxRecDepth 20000 in
theorem gL_law_X7_setDrift : GoodIn wsL_law (wsV RL 119 RX7 yX7_setDrift wsX7_setDrift) := goodIn_app (goodIn_of _ (by decide +kernel)) ggL_law_X7_setDrift
set_option maxRecDepth 20000 in
theorem ggL_law_L_addRule : GoodIn wsL_law wsL_addRule := goodIn_ca (goodIn_ca (goodIn_r _ [291, 121, 292, 293, 294, 295, 2, 296, 126, 127, 297, 298, 250, 16, 299, 133, 134, 135, 300, 301, 302, 37, 303, 93, 94, 95, 96, 97, 699, 700, 701, 709, 710, 711, 712, 713, 714, 747, 748, 749, 750, 751] (by decide +kernel) (by decide +kernel)) (goodIn_sub (fun _ h => List.mem_append_left _ (List.mem_append_left _ (List.mem_append_right _ h))) (by decide +kernel))) (goodIn_sub (fun _ h => List.mem_append_left _ (List.mem_append_right _ h)) (by decide +kernel))
set_option maxRecDepth 20000 in
theorem gL_law_L_addRule : GoodIn wsL_law (va_wsS RL 120 yL_addRule wsL_addRule) := goodIn_app (goodIn_of _ (by decide +kernel)) ggL_law_L_addRule
set_option maxRecDepth 20000 in
theorem ggL_law_X7_addRule : GoodIn wsL_law wsX7_addRule := goodIn_r _ [307, 261, 108, 142, 143, 144, 5, 145, 702, 703, 704, 705, 706, 707, 708] (by decide +kernel) (by decide +kernel)
set_option maxRecDepth 20000 in
theorem gL_law_X7_addRule : GoodIn wsL_law (wsV RL 123 RX7 yX7_addRule wsX7_addRule) := goodIn_app (goodIn_of _ (by decide +kernel)) ggL_law_X7_addRule
set_option maxRecDepth 20000 in
theorem ggL_law_X6_clearRules : GoodIn wsL_law wsX6_clearRules := goodIn_r _ [311, 16, 299, 312, 699, 700, 701, 709, 710, 711, 712, 713, 714, 747, 748, 749, 750, 751] (by decide +kernel) (by decide +kernel)
set_option maxRecDepth 20000 in
theorem gL_law_X6_clearRules : GoodIn wsL_law (wsV RL 124 RX6 yX6_clearRules wsX6_clearRules) := goodIn_app (goodIn_of _ (by decide +kernel)) ggL_law_X6_clearRules
set_option maxRecDepth 20000 in
theorem ggL_law_X7_clearRules : GoodIn wsL_law wsX7_clearRules := goodIn_r _ [316, 142, 108, 702, 703, 704, 705, 706, 707, 708] (by decide +kernel) (by decide +kernel)
set_option maxRecDepth 20000 in
theorem gL_law_X7_clearRules : GoodIn wsL_law (wsV RL 127 RX7 yX7_clearRules wsX7_clearRules) := goodIn_app (goodIn_of _ (by decide +kernel)) ggL_law_X7_clearRules
set_option maxRecDepth 20000 in
theorem ggL_law_X6_start : GoodIn wsL_law wsX6_start := goodIn_r _ [320, 16, 251, 321, 322, 323, 33, 324, 74, 79, 699, 700, 701, 709, 710, 711, 712, 713, 714, 733, 734, 735, 736, 737, 738, 739, 740, 741, 742, 743, 744, 745, 746] (by decide +kernel) (by decide +kernel)
set_option maxRecDepth 20000 in
theorem gL_law_X6_start : GoodIn wsL_law (wsV RL 128 RX6 yX6_start wsX6_start) := goodIn_app (goodIn_of _ (by decide +kernel)) ggL_law_X6_start
set_option maxRecDepth 20000 in
theorem ggL_law_X7_start : GoodIn wsL_law wsX7_start := goodIn_r _ [328, 142, 108, 702, 703, 704, 705, 706, 707, 708] (by decide +kernel) (by decide +kernel)
set_option maxRecDepth 20000 in
theorem gL_law_X7_start : GoodIn wsL_law (wsV RL 132 RX7 yX7_start wsX7_start) := goodIn_app (goodIn_of _ (by decide +kernel)) ggL_law_X7_start
set_option maxRecDepth 20000 in
theorem ggL_law_X6_stop : GoodIn wsL_law wsX6_stop := goodIn_r _ [332, 16, 333, 334, 335, 15, 336, 34, 337, 42, 22, 338, 339, 340, 341, 41, 342, 101, 102, 103, 343, 166, 167, 168, 699, 700, 701, 709, 710, 711, 712, 713, 714, 733, 734, 735, 736, 737, 738, 739, 740, 741, 742, 743, 744, 745, 746, 752, 753, 754] (by decide +kernel) (by decide +kernel)
set_option maxRecDepth 20000 in
theorem gL_law_X6_stop : GoodIn wsL_law (wsV RL 133 RX6 yX6_stop wsX6_stop) := goodIn_app (goodIn_of _ (by decide +kernel)) ggL_law_X6_stop
set_option maxRecDepth 20000 in
theorem ggL_law_X7_stop : GoodIn wsL_law wsX7_stop := goodIn_r _ [347, 142, 108, 348, 349, 350, 5, 351, 702, 703, 704, 705, 706, 707, 708] (by decide +kernel) (by decide +kernel)
set_option maxRecDepth 20000 in
theorem gL_law_X7_stop : GoodIn wsL_law (wsV RL 136 RX7 yX7_stop wsX7_stop) := goodIn_app (goodIn_of _ (by decide +kernel)) ggL_law_X7_stop
set_option maxRecDepth 20000 in
theorem ggL_law_L_advance : GoodIn wsL_law wsL_advance := goodIn_ca (goodIn_r _ [354, 121, 355, 356, 357, 2, 358, 126, 127, 16, 359, 133, 134, 135, 360, 361, 362, 15, 363, 22, 26, 34, 338, 30, 364, 365, 366, 367, 337, 368, 369, 370, 33, 371, 86, 372, 87, 373, 374, 375, 25, 376, 50, 51, 46, 52, 48, 377, 378, 379, 380, 53, 381, 382, 383, 384, 385, 386, 387, 388, 54, 55, 389, 390, 249, 250, 391, 392, 393, 394, 395, 161, 162, 163, 49, 164, 165, 166, 167, 168, 396, 397, 398, 29, 399, 60, 62, 400, 401, 63, 64, 65, 66, 68, 402, 403, 404, 405, 406, 70, 407, 408, 409, 410, 38, 411, 412, 413, 414, 67, 415, 416, 417, 418, 419, 42, 339, 340, 341, 41, 342, 101, 102, 103, 343, 420, 421, 422, 37, 423, 93, 94, 95, 97, 96, 424, 425, 426, 427, 428, 429, 430, 75, 78, 76, 431, 432, 433, 434, 435, 436, 437, 438, 439, 440, 80, 81, 83, 85, 441, 442, 443, 444, 445, 446, 447, 448, 88, 74, 89, 699, 700, 701, 709, 710, 711, 712, 713, 714, 733, 734, 735, 736, 737, 738, 739, 740, 741, 742, 743, 744, 745, 746, 724, 725, 726, 727, 728, 729, 730, 731, 732, 715, 716, 717, 718, 719, 720, 721, 722, 723, 752, 753, 754, 747, 748, 749, 750, 751] (by decide +kernel) (by decide +kernel)) (goodIn_sub (fun _ h => List.mem_append_left _ (List.mem_append_left _ (List.mem_append_right _ h))) (by decide +kernel))
set_option maxRecDepth 20000 in
theorem gL_law_L_advance : GoodIn wsL_law (va_wsS RL 137 yL_advance wsL_advance) := goodIn_app (goodIn_of _ (by decide +kernel)) ggL_law_L_advance
set_option maxRecDepth 20000 in
theorem ggL_law_X7_advance : GoodIn wsL_law wsX7_advance := goodIn_r _ [452, 142, 453, 108, 143, 144, 5, 145, 454, 455, 456, 457, 458, 459, 460, 461, 114, 260, 261, 462, 463, 464, 175, 176, 177, 178, 465, 466, 467, 468, 174, 469, 470, 471, 472, 473, 474, 475, 476, 477, 478, 479, 480, 348, 349, 350, 351, 481, 482, 483, 484, 485, 486, 487, 488, 702, 703, 704, 705, 706, 707, 708] (by decide +kernel) (by decide +kernel)
set_option maxRecDepth 20000 in
theorem gL_law_X7_advance : GoodIn wsL_law (wsV RL 139 RX7 yX7_advance wsX7_advance) := goodIn_app (goodIn_of _ (by decide +kernel)) ggL_law_X7_advance
set_option maxRecDepth 20000 in
theorem ggL_law_X6_state : GoodIn wsL_law wsX6_state := goodIn_r _ [492, 16, 251, 493, 699, 700, 701, 709, 710, 711, 712, 713, 714, 733, 734, 735, 736, 737, 738, 739, 740, 741, 742, 743, 744, 745, 746] (by decide +kernel) (by decide +kernel)
set_option maxRecDepth 20000 in
theorem gL_law_X6_state : GoodIn wsL_law (wsV RL 140 RX6 yX6_state wsX6_state) := goodIn_app (goodIn_of _ (by decide +kernel)) ggL_law_X6_state
set_option maxRecDepth 20000 in
theorem ggL_law_X7_state : GoodIn wsL_law wsX7_state := goodIn_r _ [497, 142, 108, 702, 703, 704, 705, 706, 707, 708] (by decide +kernel) (by decide +kernel)
set_option maxRecDepth 20000 in
theorem gL_law_X7_state : GoodIn wsL_law (wsV RL 143 RX7 yX7_state wsX7_state) := goodIn_app (goodIn_of _ (by decide +kernel)) ggL_law_X7_state
set_option maxRecDepth 20000 in
theorem ggL_law_X6_isLocked : GoodIn wsL_law wsX6_isLocked := goodIn_r _ [501, 16, 220, 502, 412, 413, 29, 414, 68, 67, 699, 700, 701, 709, 710, 711, 712, 713, 714, 724, 725, 726, 727, 728, 729, 730, 731, 732] (by decide +kernel) (by decide +kernel)
set_option maxRecDepth 20000 in
theorem gL_law_X6_isLocked : GoodIn wsL_law (wsV RL 144 RX6 yX6_isLocked wsX6_isLocked) := goodIn_app (goodIn_of _ (by decide +kernel)) ggL_law_X6_isLocked
set_option maxRecDepth 20000 in
theorem ggL_law_X7_isLocked : GoodIn wsL_law wsX7_isLocked := goodIn_r _ [506, 142, 473, 474, 475, 5, 476, 108, 702, 703, 704, 705, 706, 707, 708] (by decide +kernel) (by decide +kernel)
set_option maxRecDepth 20000 in
theorem gL_law_X7_isLocked : GoodIn wsL_law (wsV RL 147 RX7 yX7_isLocked wsX7_isLocked) := goodIn_app (goodIn_of _ (by decide +kernel)) ggL_law_X7_isLocked
set_option maxRecDepth 20000 in
theorem ggL_law_L_measure : GoodIn wsL_law wsL_measure := goodIn_ca (goodIn_r _ [509, 121, 510, 511, 512, 2, 513, 126, 127, 16, 359, 130, 514, 515, 159, 220, 516, 517, 518, 519, 251, 520, 521, 699, 700, 701, 709, 710, 711, 712, 713, 714, 715, 716, 717, 718, 719, 720, 721, 722, 723, 724, 725, 726, 727, 728, 729, 730, 731, 732, 733, 734, 735, 736, 737, 738, 739, 740, 741, 742, 743, 744, 745, 746] (by decide +kernel) (by decide +kernel)) (goodIn_sub (fun _ h => List.mem_append_left _ (List.mem_append_left _ (List.mem_append_right _ h))) (by decide +kernel))
set_option maxRecDepth 20000 in
theorem gL_law_L_measure : GoodIn wsL_law (va_wsS RL 148 yL_measure wsL_measure) := goodIn_app (goodIn_of _ (by decide +kernel)) ggL_law_L_measure
set_option maxRecDepth 20000 in
theorem ggL_law_X7_measure : GoodIn wsL_law wsX7_measure := goodIn_r _ [525, 142, 108, 143, 144, 5, 145, 702, 703, 704, 705, 706, 707, 708] (by decide +kernel) (by decide +kernel)
set_option maxRecDepth 20000 in
theorem gL_law_X7_measure : GoodIn wsL_law (wsV RL 150 RX7 yX7_measure wsX7_measure) := goodIn_app (goodIn_of _ (by decide +kernel)) ggL_law_X7_measure
set_option maxRecDepth 20000 in
theorem ggL_law_L_violations : GoodIn wsL_law wsL_violations := goodIn_ca (goodIn_r _ [528, 529, 530, 531, 532, 2, 533, 534, 535, 16, 299, 536, 537, 538, 37, 539, 93, 97, 699, 700, 701, 709, 710, 711, 712, 713, 714, 747, 748, 749, 750, 751] (by decide +kernel) (by decide +kernel)) (goodIn_sub (fun _ h => List.mem_append_right _ h) (by decide +kernel))
set_option maxRecDepth 20000 in
theorem gL_law_L_violations : GoodIn wsL_law (va_wsS RL 151 yL_violations wsL_violations) := goodIn_app (goodIn_of _ (by decide +kernel)) ggL_law_L_violations
set_option maxRecDepth 20000 in
theorem ggL_law_X7_violations : GoodIn wsL_law wsX7_violations := goodIn_r _ [543, 108, 142, 143, 144, 5, 145, 702, 703, 704, 705, 706, 707, 708] (by decide +kernel) (by decide +kernel)
set_option maxRecDepth 20000 in
theorem gL_law_X7_violations : GoodIn wsL_law (wsV RL 153 RX7 yX7_violations wsX7_violations) := goodIn_app (goodIn_of _ (by decide +kernel)) ggL_law_X7_violations
set_option maxRecDepth 20000 in
theorem ggL_law_X6_energy : GoodIn wsL_law wsX6_energy := goodIn_r _ [547, 16, 251, 548, 699, 700, 701, 709, 710, 711, 712, 713, 714, 733, 734, 735, 736, 737, 738, 739, 740, 741, 742, 743, 744, 745, 746] (by decide +kernel) (by decide +kernel)
set_option maxRecDepth 20000 in
theorem gL_law_X6_energy : GoodIn wsL_law (wsV RL 154 RX6 yX6_energy wsX6_energy) := goodIn_app (goodIn_of _ (by decide +kernel)) ggL_law_X6_energy
set_option maxRecDepth 20000 in
theorem ggL_law_X7_energy : GoodIn wsL_law wsX7_energy := goodIn_r _ [552, 142, 453, 702, 703, 704, 705, 706, 707, 708] (by decide +kernel) (by decide +kernel)
set_option maxRecDepth 20000 in
theorem gL_law_X7_energy : GoodIn wsL_law (wsV RL 158 RX7 yX7_energy wsX7_energy) := goodIn_app (goodIn_of _ (by decide +kernel)) ggL_law_X7_energy
set_option maxRecDepth 20000 in
theorem ggL_law_X6_availability : GoodIn wsL_law wsX6_availability := goodIn_r _ [556, 16, 359, 251, 557, 699, 700, 701, 709, 710, 711, 712, 713, 714, 733, 734, 735, 736, 737, 738, 739, 740, 741, 742, 743, 744, 745, 746] (by decide +kernel) (by decide +kernel)
set_option maxRecDepth 20000 in
theorem gL_law_X6_availability : GoodIn wsL_law (wsV RL 159 RX6 yX6_availability wsX6_availability) := goodIn_app (goodIn_of _ (by decide +kernel)) ggL_law_X6_availability
set_option maxRecDepth 20000 in
theorem ggL_law_X7_availability : GoodIn wsL_law wsX7_availability := goodIn_r _ [561, 142, 108, 702, 703, 704, 705, 706, 707, 708] (by decide +kernel) (by decide +kernel)
set_option maxRecDepth 20000 in
theorem gL_law_X7_availability : GoodIn wsL_law (wsV RL 163 RX7 yX7_availability wsX7_availability) := goodIn_app (goodIn_of _ (by decide +kernel)) ggL_law_X7_availability
set_option maxRecDepth 20000 in
theorem ggL_law_X6_events : GoodIn wsL_law wsX6_events := goodIn_r _ [565, 16, 566, 567, 699, 700, 701, 709, 710, 711, 712, 713, 714, 752, 753, 754] (by decide +kernel) (by decide +kernel)
set_option maxRecDepth 20000 in
theorem gL_law_X6_events : GoodIn wsL_law (wsV RL 164 RX6 yX6_events wsX6_events) := goodIn_app (goodIn_of _ (by decide +kernel)) ggL_law_X6_events
set_option maxRecDepth 20000 in
theorem ggL_law_X7_events : GoodIn wsL_law wsX7_events := goodIn_r _ [571, 142, 108, 702, 703, 704, 705, 706, 707, 708] (by decide +kernel) (by decide +kernel)
set_option maxRecDepth 20000 in
theorem gL_law_X7_events : GoodIn wsL_law (wsV RL 167 RX7 yX7_events wsX7_events) := goodIn_app (goodIn_of _ (by decide +kernel)) ggL_law_X7_events
set_option maxRecDepth 20000 in
theorem ggL_law_L_event : GoodIn wsL_law wsL_event := goodIn_ca (goodIn_r _ [574, 121, 575, 576, 577, 2, 578, 126, 127, 16, 566, 133, 134, 135, 579, 580, 581, 41, 582, 102, 583, 584, 585, 586, 101, 343, 166, 167, 168, 587, 588, 589, 590, 103, 699, 700, 701, 709, 710, 711, 712, 713, 714, 752, 753, 754] (by decide +kernel) (by decide +kernel)) (goodIn_sub (fun _ h => List.mem_append_left _ (List.mem_append_left _ (List.mem_append_right _ h))) (by decide +kernel))
set_option maxRecDepth 20000 in
theorem gL_law_L_event : GoodIn wsL_law (va_wsS RL 168 yL_event wsL_event) := goodIn_app (goodIn_of _ (by decide +kernel)) ggL_law_L_event
set_option maxRecDepth 20000 in
theorem ggL_law_X7_event : GoodIn wsL_law wsX7_event := goodIn_r _ [594, 142, 108, 143, 144, 5, 145, 702, 703, 704, 705, 706, 707, 708] (by decide +kernel) (by decide +kernel)
set_option maxRecDepth 20000 in
theorem gL_law_X7_event : GoodIn wsL_law (wsV RL 171 RX7 yX7_event wsX7_event) := goodIn_app (goodIn_of _ (by decide +kernel)) ggL_law_X7_event
set_option maxRecDepth 20000 in
theorem ggL_law_L_islandTime : GoodIn wsL_law wsL_islandTime := goodIn_ca (goodIn_ca (goodIn_r _ [597, 121, 292, 598, 599, 600, 2, 601, 126, 127, 297, 298, 16, 251, 493, 195, 196, 197, 128, 129, 133, 134, 135, 602, 603, 604, 605, 17, 130, 183, 606, 607, 608, 15, 609, 22, 26, 30, 34, 38, 42, 610, 611, 612, 25, 613, 46, 48, 49, 50, 51, 52, 53, 54, 55, 614, 199, 200, 201, 615, 616, 617, 29, 618, 60, 62, 63, 64, 65, 66, 67, 68, 70, 619, 620, 391, 382, 383, 384, 621, 622, 623, 624, 625, 626, 627, 33, 628, 74, 75, 76, 77, 78, 79, 80, 81, 83, 85, 86, 87, 88, 89, 629, 630, 631, 37, 632, 93, 94, 95, 96, 97, 633, 634, 635, 41, 636, 101, 102, 103, 198, 360, 361, 362, 363, 338, 364, 365, 366, 367, 337, 368, 369, 370, 371, 372, 373, 374, 375, 376, 377, 378, 379, 380, 381, 385, 386, 387, 388, 389, 390, 249, 250, 392, 393, 394, 395, 161, 162, 163, 164, 165, 166, 167, 168, 396, 397, 398, 399, 400, 401, 402, 403, 404, 405, 406, 407, 408, 409, 410, 411, 412, 413, 414, 415, 416, 417, 418, 419, 339, 340, 341, 342, 343, 420, 421, 422, 423, 424, 425, 426, 427, 428, 429, 430, 431, 432, 433, 434, 435, 436, 437, 438, 439, 440, 441, 442, 443, 444, 445, 446, 447, 448, 699, 700, 701, 709, 710, 711, 712, 713, 714, 733, 734, 735, 736, 737, 738, 739, 740, 741, 742, 743, 744, 745, 746, 715, 716, 717, 718, 719, 720, 721, 722, 723, 724, 725, 726, 727, 728, 729, 730, 731, 732, 747, 748, 749, 750, 751, 752, 753, 754] (by decide +kernel) (by decide +kernel)) (goodIn_sub (fun _ h => List.mem_append_left _ (List.mem_append_left _ (List.mem_append_right _ h))) (by decide +kernel))) (goodIn_sub (fun _ h => List.mem_append_left _ (List.mem_append_right _ h)) (by decide +kernel))
set_option maxRecDepth 20000 in
theorem gL_law_L_islandTime : GoodIn wsL_law (va_wsS RL 172 yL_islandTime wsL_islandTime) := goodIn_app (goodIn_of _ (by decide +kernel)) ggL_law_L_islandTime
set_option maxRecDepth 20000 in
theorem ggL_law_X7_islandTime : GoodIn wsL_law wsX7_islandTime := goodIn_r _ [640, 108, 142, 206, 207, 5, 208, 140, 141, 143, 144, 145, 641, 642, 643, 644, 645, 646, 647, 648, 109, 209, 210, 211, 212, 454, 455, 456, 457, 458, 459, 460, 461, 114, 260, 261, 462, 463, 464, 175, 176, 177, 178, 465, 466, 467, 468, 174, 469, 470, 471, 472, 473, 474, 475, 476, 477, 478, 479, 480, 348, 349, 350, 351, 481, 482, 483, 484, 485, 486, 487, 488, 649, 650, 651, 652, 702, 703, 704, 705, 706, 707, 708] (by decide +kernel) (by decide +kernel)
set_option maxRecDepth 20000 in
theorem gL_law_X7_islandTime : GoodIn wsL_law (wsV RL 175 RX7 yX7_islandTime wsX7_islandTime) := goodIn_app (goodIn_of _ (by decide +kernel)) ggL_law_X7_islandTime
set_option maxRecDepth 20000 in
theorem ggL_law_L_undetected : GoodIn wsL_law wsL_undetected := goodIn_ca (goodIn_ca (goodIn_r _ [655, 121, 292, 656, 657, 658, 2, 659, 126, 127, 297, 298, 16, 251, 493, 130, 660, 661, 133, 134, 135, 602, 603, 604, 605, 17, 183, 606, 607, 608, 15, 609, 22, 26, 30, 34, 38, 42, 610, 611, 612, 25, 613, 46, 48, 49, 50, 51, 52, 53, 54, 55, 614, 199, 200, 201, 615, 616, 617, 29, 618, 60, 62, 63, 64, 65, 66, 67, 68, 70, 619, 620, 391, 382, 383, 384, 621, 622, 623, 624, 625, 626, 627, 33, 628, 74, 75, 76, 77, 78, 79, 80, 81, 83, 85, 86, 87, 88, 89, 629, 630, 631, 37, 632, 93, 94, 95, 96, 97, 633, 634, 635, 41, 636, 101, 102, 103, 198, 360, 361, 362, 363, 338, 364, 365, 366, 367, 337, 368, 369, 370, 371, 372, 373, 374, 375, 376, 377, 378, 379, 380, 381, 385, 386, 387, 388, 389, 390, 249, 250, 392, 393, 394, 395, 161, 162, 163, 164, 165, 166, 167, 168, 396, 397, 398, 399, 400, 401, 402, 403, 404, 405, 406, 407, 408, 409, 410, 411, 412, 413, 414, 415, 416, 417, 418, 419, 339, 340, 341, 342, 343, 420, 421, 422, 423, 424, 425, 426, 427, 428, 429, 430, 431, 432, 433, 434, 435, 436, 437, 438, 439, 440, 441, 442, 443, 444, 445, 446, 447, 448, 699, 700, 701, 709, 710, 711, 712, 713, 714, 733, 734, 735, 736, 737, 738, 739, 740, 741, 742, 743, 744, 745, 746, 715, 716, 717, 718, 719, 720, 721, 722, 723, 724, 725, 726, 727, 728, 729, 730, 731, 732, 747, 748, 749, 750, 751, 752, 753, 754] (by decide +kernel) (by decide +kernel)) (goodIn_sub (fun _ h => List.mem_append_left _ (List.mem_append_left _ (List.mem_append_right _ h))) (by decide +kernel))) (goodIn_sub (fun _ h => List.mem_append_left _ (List.mem_append_right _ h)) (by decide +kernel))
set_option maxRecDepth 20000 in
theorem gL_law_L_undetected : GoodIn wsL_law (va_wsS RL 176 yL_undetected wsL_undetected) := goodIn_app (goodIn_of _ (by decide +kernel)) ggL_law_L_undetected
set_option maxRecDepth 20000 in
theorem ggL_law_X7_undetected : GoodIn wsL_law wsX7_undetected := goodIn_r _ [665, 108, 142, 143, 144, 5, 145, 641, 642, 643, 644, 645, 646, 647, 648, 109, 209, 210, 211, 212, 454, 455, 456, 457, 458, 459, 460, 461, 114, 260, 261, 462, 463, 464, 175, 176, 177, 178, 465, 466, 467, 468, 174, 469, 470, 471, 472, 473, 474, 475, 476, 477, 478, 479, 480, 348, 349, 350, 351, 481, 482, 483, 484, 485, 486, 487, 488, 649, 650, 651, 652, 702, 703, 704, 705, 706, 707, 708] (by decide +kernel) (by decide +kernel)
set_option maxRecDepth 20000 in
theorem gL_law_X7_undetected : GoodIn wsL_law (wsV RL 178 RX7 yX7_undetected wsX7_undetected) := goodIn_app (goodIn_of _ (by decide +kernel)) ggL_law_X7_undetected
set_option maxRecDepth 20000 in
theorem ggL_law_L_relockTime : GoodIn wsL_law wsL_relockTime := goodIn_ca (goodIn_r _ [668, 121, 669, 670, 671, 2, 672, 126, 127, 157, 158, 17, 16, 130, 220, 519, 133, 134, 135, 606, 607, 608, 15, 609, 22, 26, 30, 34, 38, 42, 610, 611, 612, 25, 613, 46, 48, 49, 50, 51, 52, 53, 54, 55, 614, 199, 200, 201, 615, 616, 617, 29, 618, 60, 62, 63, 64, 65, 66, 67, 68, 70, 619, 620, 391, 382, 383, 384, 621, 622, 623, 624, 625, 626, 627, 33, 628, 74, 75, 76, 77, 78, 79, 80, 81, 83, 85, 86, 87, 88, 89, 629, 630, 631, 37, 632, 93, 94, 95, 96, 97, 633, 634, 635, 41, 636, 101, 102, 103, 160, 161, 162, 163, 164, 165, 166, 167, 168, 360, 361, 362, 363, 338, 364, 365, 366, 367, 337, 368, 369, 370, 371, 372, 373, 374, 375, 376, 377, 378, 379, 380, 381, 385, 386, 387, 388, 389, 390, 249, 250, 392, 393, 394, 395, 396, 397, 398, 399, 400, 401, 402, 403, 404, 405, 406, 407, 408, 409, 410, 411, 412, 413, 414, 415, 416, 417, 418, 419, 339, 340, 341, 342, 343, 420, 421, 422, 423, 424, 425, 426, 427, 428, 429, 430, 431, 432, 433, 434, 435, 436, 437, 438, 439, 440, 441, 442, 443, 444, 445, 446, 447, 448, 502, 699, 700, 701, 709, 710, 711, 712, 713, 714, 724, 725, 726, 727, 728, 729, 730, 731, 732, 715, 716, 717, 718, 719, 720, 721, 722, 723, 733, 734, 735, 736, 737, 738, 739, 740, 741, 742, 743, 744, 745, 746, 747, 748, 749, 750, 751, 752, 753, 754] (by decide +kernel) (by decide +kernel)) (goodIn_sub (fun _ h => List.mem_append_left _ (List.mem_append_left _ (List.mem_append_right _ h))) (by decide +kernel))
set_option maxRecDepth 20000 in
theorem gL_law_L_relockTime : GoodIn wsL_law (va_wsS RL 179 yL_relockTime wsL_relockTime) := goodIn_app (goodIn_of _ (by decide +kernel)) ggL_law_L_relockTime
set_option maxRecDepth 20000 in
theorem ggL_law_X7_relockTime : GoodIn wsL_law wsX7_relockTime := goodIn_r _ [676, 173, 174, 142, 108, 143, 144, 5, 145, 645, 646, 647, 648, 109, 175, 176, 177, 178, 473, 474, 475, 476, 454, 455, 456, 457, 458, 459, 460, 461, 114, 260, 261, 462, 463, 464, 465, 466, 467, 468, 469, 470, 471, 472, 477, 478, 479, 480, 348, 349, 350, 351, 481, 482, 483, 484, 485, 486, 487, 488, 649, 650, 651, 652, 702, 703, 704, 705, 706, 707, 708] (by decide +kernel) (by decide +kernel)
set_option maxRecDepth 20000 in
theorem gL_law_X7_relockTime : GoodIn wsL_law (wsV RL 181 RX7 yX7_relockTime wsX7_relockTime) := goodIn_app (goodIn_of _ (by decide +kernel)) ggL_law_X7_relockTime
set_option maxRecDepth 20000 in
theorem ggL_law_L_save : GoodIn wsL_law wsL_save := goodIn_ca (goodIn_r _ [679, 121, 680, 681, 682, 2, 683, 126, 127, 18, 13, 14, 15, 16, 133, 134, 135, 19, 20, 21, 11, 12, 22, 23, 24, 25, 26, 27, 28, 29, 30, 31, 32, 33, 34, 35, 36, 37, 38, 39, 40, 41, 42, 43, 44, 45, 46, 47, 48, 49, 50, 51, 52, 53, 54, 55, 56, 57, 58, 59, 60, 61, 62, 63, 64, 65, 66, 67, 68, 69, 70, 71, 72, 73, 74, 75, 76, 77, 78, 79, 80, 81, 82, 83, 84, 85, 86, 87, 88, 89, 90, 91, 92, 93, 94, 95, 96, 97, 98, 99, 100, 101, 102, 103, 606, 607, 608, 609, 610, 611, 612, 613, 614, 199, 200, 201, 615, 616, 617, 618, 619, 620, 391, 382, 383, 384, 621, 622, 623, 624, 625, 626, 627, 628, 629, 630, 631, 632, 633, 634, 635, 636, 699, 700, 701, 709, 710, 711, 712, 713, 714, 715, 716, 717, 718, 719, 720, 721, 722, 723, 724, 725, 726, 727, 728, 729, 730, 731, 732, 733, 734, 735, 736, 737, 738, 739, 740, 741, 742, 743, 744, 745, 746, 747, 748, 749, 750, 751, 752, 753, 754] (by decide +kernel) (by decide +kernel)) (goodIn_sub (fun _ h => List.mem_append_left _ (List.mem_append_left _ (List.mem_append_right _ h))) (by decide +kernel))
set_option maxRecDepth 20000 in
theorem gL_law_L_save : GoodIn wsL_law (va_wsS RL 182 yL_save wsL_save) := goodIn_app (goodIn_of _ (by decide +kernel)) ggL_law_L_save
set_option maxRecDepth 20000 in
theorem ggL_law_X7_save : GoodIn wsL_law wsX7_save := goodIn_r _ [687, 142, 110, 108, 111, 453, 113, 143, 144, 5, 145, 702, 703, 704, 705, 706, 707, 708] (by decide +kernel) (by decide +kernel)
set_option maxRecDepth 20000 in
theorem gL_law_X7_save : GoodIn wsL_law (wsV RL 185 RX7 yX7_save wsX7_save) := goodIn_app (goodIn_of _ (by decide +kernel)) ggL_law_X7_save
set_option maxRecDepth 20000 in
theorem ggL_law_L_restore : GoodIn wsL_law wsL_restore := goodIn_ca (goodIn_ca (goodIn_r _ [690, 121, 292, 691, 692, 693, 2, 694, 126, 127, 297, 298, 18, 16, 133, 134, 135, 606, 607, 608, 15, 609, 22, 26, 30, 34, 38, 42, 610, 611, 612, 25, 613, 46, 48, 49, 50, 51, 52, 53, 54, 55, 614, 199, 200, 201, 615, 616, 617, 29, 618, 60, 62, 63, 64, 65, 66, 67, 68, 70, 619, 620, 391, 382, 383, 384, 621, 622, 623, 624, 625, 626, 627, 33, 628, 74, 75, 76, 77, 78, 79, 80, 81, 83, 85, 86, 87, 88, 89, 629, 630, 631, 37, 632, 93, 94, 95, 96, 97, 633, 634, 635, 41, 636, 101, 102, 103, 699, 700, 701, 709, 710, 711, 712, 713, 714, 715, 716, 717, 718, 719, 720, 721, 722, 723, 724, 725, 726, 727, 728, 729, 730, 731, 732, 733, 734, 735, 736, 737, 738, 739, 740, 741, 742, 743, 744, 745, 746, 747, 748, 749, 750, 751, 752, 753, 754] (by decide +kernel) (by decide +kernel)) (goodIn_sub (fun _ h => List.mem_append_left _ (List.mem_append_left _ (List.mem_append_right _ h))) (by decide +kernel))) (goodIn_sub (fun _ h => List.mem_append_left _ (List.mem_append_right _ h)) (by decide +kernel))
set_option maxRecDepth 20000 in
theorem gL_law_L_restore : GoodIn wsL_law (va_wsS RL 186 yL_restore wsL_restore) := goodIn_app (goodIn_of _ (by decide +kernel)) ggL_law_L_restore
set_option maxRecDepth 20000 in
theorem ggL_law_X7_restore : GoodIn wsL_law wsX7_restore := goodIn_r _ [698, 113, 142, 108, 110, 111, 453, 143, 144, 5, 145, 702, 703, 704, 705, 706, 707, 708] (by decide +kernel) (by decide +kernel)
set_option maxRecDepth 20000 in
theorem gL_law_X7_restore : GoodIn wsL_law (wsV RL 188 RX7 yX7_restore wsX7_restore) := goodIn_app (goodIn_of _ (by decide +kernel)) ggL_law_X7_restore
theorem dL_law_0 : decode cL_law 0 = .ok (.new 8, 3) := by decide +kernel
theorem dL_law_3 : decode cL_law 3 = .ok (.dup, 1) := by decide +kernel
theorem dL_law_4 : decode cL_law 4 = .ok (.invokespecial 77, 3) := by decide +kernel
theorem dL_law_7 : decode cL_law 7 = .ok (.astore_n 1, 1) := by decide +kernel
theorem dL_law_8 : decode cL_law 8 = .ok (.new 78, 3) := by decide +kernel
theorem dL_law_11 : decode cL_law 11 = .ok (.dup, 1) := by decide +kernel
theorem dL_law_12 : decode cL_law 12 = .ok (.invokespecial 80, 3) := by decide +kernel
theorem dL_law_15 : decode cL_law 15 = .ok (.astore_n 2, 1) := by decide +kernel
theorem dL_law_16 : decode cL_law 16 = .ok (.iconst 1, 1) := by decide +kernel
theorem dL_law_17 : decode cL_law 17 = .ok (.newarray .long, 2) := by decide +kernel
theorem dL_law_19 : decode cL_law 19 = .ok (.astore_n 3, 1) := by decide +kernel
theorem dL_law_20 : decode cL_law 20 = .ok (.iconst 0, 1) := by decide +kernel
theorem dL_law_21 : decode cL_law 21 = .ok (.istore 4, 2) := by decide +kernel
theorem dL_law_23 : decode cL_law 23 = .ok (.iload 4, 2) := by decide +kernel
theorem dL_law_25 : decode cL_law 25 = .ok (.aload_n 0, 1) := by decide +kernel
theorem dL_law_26 : decode cL_law 26 = .ok (.arraylength, 1) := by decide +kernel
theorem dL_law_27 : decode cL_law 27 = .ok (.iconst 5, 1) := by decide +kernel
theorem dL_law_28 : decode cL_law 28 = .ok (.isub, 1) := by decide +kernel
theorem dL_law_29 : decode cL_law 29 = .ok (.if_icmp .gt 1391, 3) := by decide +kernel
theorem dL_law_32 : decode cL_law 32 = .ok (.aload_n 0, 1) := by decide +kernel
theorem dL_law_33 : decode cL_law 33 = .ok (.iload 4, 2) := by decide +kernel
theorem dL_law_35 : decode cL_law 35 = .ok (.iaload, 1) := by decide +kernel
theorem dL_law_36 : decode cL_law 36 = .ok (.bipush 31, 2) := by decide +kernel
theorem dL_law_38 : decode cL_law 38 = .ok (.iand, 1) := by decide +kernel
theorem dL_law_39 : decode cL_law 39 = .ok (.tableswitch 1375 0 26 #[121, 169, 225, 266, 326, 374, 422, 494, 554, 602, 682, 695, 708, 721, 777, 790, 803, 859, 915, 929, 970, 983, 1051, 1143, 1235, 1303, 1339], 121) := by decide +kernel
theorem dL_law_160 : decode cL_law 160 = .ok (.aload_n 1, 1) := by decide +kernel
theorem dL_law_161 : decode cL_law 161 = .ok (.aload_n 0, 1) := by decide +kernel
theorem dL_law_162 : decode cL_law 162 = .ok (.iload 4, 2) := by decide +kernel
theorem dL_law_164 : decode cL_law 164 = .ok (.iconst 1, 1) := by decide +kernel
theorem dL_law_165 : decode cL_law 165 = .ok (.iadd, 1) := by decide +kernel
theorem dL_law_166 : decode cL_law 166 = .ok (.iaload, 1) := by decide +kernel
theorem dL_law_167 : decode cL_law 167 = .ok (.aload_n 0, 1) := by decide +kernel
theorem dL_law_168 : decode cL_law 168 = .ok (.iload 4, 2) := by decide +kernel
theorem dL_law_170 : decode cL_law 170 = .ok (.iconst 2, 1) := by decide +kernel
theorem dL_law_171 : decode cL_law 171 = .ok (.iadd, 1) := by decide +kernel
theorem dL_law_172 : decode cL_law 172 = .ok (.iaload, 1) := by decide +kernel
theorem dL_law_173 : decode cL_law 173 = .ok (.invokestatic 81, 3) := by decide +kernel
theorem dL_law_176 : decode cL_law 176 = .ok (.istore 5, 2) := by decide +kernel
theorem dL_law_178 : decode cL_law 178 = .ok (.aload_n 2, 1) := by decide +kernel
theorem dL_law_179 : decode cL_law 179 = .ok (.aload_n 0, 1) := by decide +kernel
theorem dL_law_180 : decode cL_law 180 = .ok (.iload 4, 2) := by decide +kernel
theorem dL_law_182 : decode cL_law 182 = .ok (.iconst 1, 1) := by decide +kernel
theorem dL_law_183 : decode cL_law 183 = .ok (.iadd, 1) := by decide +kernel
theorem dL_law_184 : decode cL_law 184 = .ok (.iaload, 1) := by decide +kernel
theorem dL_law_185 : decode cL_law 185 = .ok (.aload_n 0, 1) := by decide +kernel
theorem dL_law_186 : decode cL_law 186 = .ok (.iload 4, 2) := by decide +kernel
theorem dL_law_188 : decode cL_law 188 = .ok (.iconst 2, 1) := by decide +kernel
theorem dL_law_189 : decode cL_law 189 = .ok (.iadd, 1) := by decide +kernel
theorem dL_law_190 : decode cL_law 190 = .ok (.iaload, 1) := by decide +kernel
theorem dL_law_191 : decode cL_law 191 = .ok (.invokevirtual 86, 3) := by decide +kernel
theorem dL_law_194 : decode cL_law 194 = .ok (.aload_n 2, 1) := by decide +kernel
theorem dL_law_195 : decode cL_law 195 = .ok (.invokevirtual 87, 3) := by decide +kernel
theorem dL_law_198 : decode cL_law 198 = .ok (.iload 5, 2) := by decide +kernel
theorem dL_law_200 : decode cL_law 200 = .ok (.if_icmp .eq 5, 3) := by decide +kernel
theorem dL_law_203 : decode cL_law 203 = .ok (.iconst 0, 1) := by decide +kernel
theorem dL_law_204 : decode cL_law 204 = .ok (.ireturn, 1) := by decide +kernel
theorem dL_law_205 : decode cL_law 205 = .ok (.goto 1209, 3) := by decide +kernel
theorem dL_law_208 : decode cL_law 208 = .ok (.aload_n 1, 1) := by decide +kernel
theorem dL_law_209 : decode cL_law 209 = .ok (.aload_n 0, 1) := by decide +kernel
theorem dL_law_210 : decode cL_law 210 = .ok (.iload 4, 2) := by decide +kernel
theorem dL_law_212 : decode cL_law 212 = .ok (.iconst 1, 1) := by decide +kernel
theorem dL_law_213 : decode cL_law 213 = .ok (.iadd, 1) := by decide +kernel
theorem dL_law_214 : decode cL_law 214 = .ok (.iaload, 1) := by decide +kernel
theorem dL_law_215 : decode cL_law 215 = .ok (.aload_n 3, 1) := by decide +kernel
theorem dL_law_216 : decode cL_law 216 = .ok (.invokestatic 91, 3) := by decide +kernel
theorem dL_law_219 : decode cL_law 219 = .ok (.istore 5, 2) := by decide +kernel
theorem dL_law_221 : decode cL_law 221 = .ok (.aload_n 2, 1) := by decide +kernel
theorem dL_law_222 : decode cL_law 222 = .ok (.aload_n 0, 1) := by decide +kernel
theorem dL_law_223 : decode cL_law 223 = .ok (.iload 4, 2) := by decide +kernel
theorem dL_law_225 : decode cL_law 225 = .ok (.iconst 1, 1) := by decide +kernel
theorem dL_law_226 : decode cL_law 226 = .ok (.iadd, 1) := by decide +kernel
theorem dL_law_227 : decode cL_law 227 = .ok (.iaload, 1) := by decide +kernel
theorem dL_law_228 : decode cL_law 228 = .ok (.invokevirtual 94, 3) := by decide +kernel
theorem dL_law_231 : decode cL_law 231 = .ok (.istore 6, 2) := by decide +kernel
theorem dL_law_233 : decode cL_law 233 = .ok (.aload_n 2, 1) := by decide +kernel
theorem dL_law_234 : decode cL_law 234 = .ok (.invokevirtual 87, 3) := by decide +kernel
theorem dL_law_237 : decode cL_law 237 = .ok (.iload 5, 2) := by decide +kernel
theorem dL_law_239 : decode cL_law 239 = .ok (.if_icmp .eq 5, 3) := by decide +kernel
theorem dL_law_242 : decode cL_law 242 = .ok (.iconst 0, 1) := by decide +kernel
theorem dL_law_243 : decode cL_law 243 = .ok (.ireturn, 1) := by decide +kernel
theorem dL_law_244 : decode cL_law 244 = .ok (.iload 5, 2) := by decide +kernel
theorem dL_law_246 : decode cL_law 246 = .ok (.ifCond .ne 15, 3) := by decide +kernel
theorem dL_law_249 : decode cL_law 249 = .ok (.aload_n 3, 1) := by decide +kernel
theorem dL_law_250 : decode cL_law 250 = .ok (.iconst 0, 1) := by decide +kernel
theorem dL_law_251 : decode cL_law 251 = .ok (.laload, 1) := by decide +kernel
theorem dL_law_252 : decode cL_law 252 = .ok (.iload 6, 2) := by decide +kernel
theorem dL_law_254 : decode cL_law 254 = .ok (.i2l, 1) := by decide +kernel
theorem dL_law_255 : decode cL_law 255 = .ok (.lcmp, 1) := by decide +kernel
theorem dL_law_256 : decode cL_law 256 = .ok (.ifCond .eq 5, 3) := by decide +kernel
theorem dL_law_259 : decode cL_law 259 = .ok (.iconst 0, 1) := by decide +kernel
theorem dL_law_260 : decode cL_law 260 = .ok (.ireturn, 1) := by decide +kernel
theorem dL_law_261 : decode cL_law 261 = .ok (.goto 1153, 3) := by decide +kernel
theorem dL_law_264 : decode cL_law 264 = .ok (.aload_n 1, 1) := by decide +kernel
theorem dL_law_265 : decode cL_law 265 = .ok (.aload_n 0, 1) := by decide +kernel
theorem dL_law_266 : decode cL_law 266 = .ok (.iload 4, 2) := by decide +kernel
theorem dL_law_268 : decode cL_law 268 = .ok (.iconst 1, 1) := by decide +kernel
theorem dL_law_269 : decode cL_law 269 = .ok (.iadd, 1) := by decide +kernel
theorem dL_law_270 : decode cL_law 270 = .ok (.iaload, 1) := by decide +kernel
theorem dL_law_271 : decode cL_law 271 = .ok (.ifCond .eq 7, 3) := by decide +kernel
theorem dL_law_274 : decode cL_law 274 = .ok (.iconst 1, 1) := by decide +kernel
theorem dL_law_275 : decode cL_law 275 = .ok (.goto 4, 3) := by decide +kernel
theorem dL_law_278 : decode cL_law 278 = .ok (.iconst 0, 1) := by decide +kernel
theorem dL_law_279 : decode cL_law 279 = .ok (.invokevirtual 95, 3) := by decide +kernel
theorem dL_law_282 : decode cL_law 282 = .ok (.aload_n 2, 1) := by decide +kernel
theorem dL_law_283 : decode cL_law 283 = .ok (.aload_n 0, 1) := by decide +kernel
theorem dL_law_284 : decode cL_law 284 = .ok (.iload 4, 2) := by decide +kernel
theorem dL_law_286 : decode cL_law 286 = .ok (.iconst 1, 1) := by decide +kernel
theorem dL_law_287 : decode cL_law 287 = .ok (.iadd, 1) := by decide +kernel
theorem dL_law_288 : decode cL_law 288 = .ok (.iaload, 1) := by decide +kernel
theorem dL_law_289 : decode cL_law 289 = .ok (.ifCond .eq 7, 3) := by decide +kernel
theorem dL_law_292 : decode cL_law 292 = .ok (.iconst 1, 1) := by decide +kernel
theorem dL_law_293 : decode cL_law 293 = .ok (.goto 4, 3) := by decide +kernel
theorem dL_law_296 : decode cL_law 296 = .ok (.iconst 0, 1) := by decide +kernel
theorem dL_law_297 : decode cL_law 297 = .ok (.invokevirtual 99, 3) := by decide +kernel
theorem dL_law_300 : decode cL_law 300 = .ok (.if_icmp .eq 1114, 3) := by decide +kernel
theorem dL_law_303 : decode cL_law 303 = .ok (.iconst 0, 1) := by decide +kernel
theorem dL_law_304 : decode cL_law 304 = .ok (.ireturn, 1) := by decide +kernel
theorem dL_law_305 : decode cL_law 305 = .ok (.aload_n 1, 1) := by decide +kernel
theorem dL_law_306 : decode cL_law 306 = .ok (.aload_n 0, 1) := by decide +kernel
theorem dL_law_307 : decode cL_law 307 = .ok (.iload 4, 2) := by decide +kernel
theorem dL_law_309 : decode cL_law 309 = .ok (.iconst 1, 1) := by decide +kernel
theorem dL_law_310 : decode cL_law 310 = .ok (.iadd, 1) := by decide +kernel
theorem dL_law_311 : decode cL_law 311 = .ok (.iaload, 1) := by decide +kernel
theorem dL_law_312 : decode cL_law 312 = .ok (.aload_n 0, 1) := by decide +kernel
theorem dL_law_313 : decode cL_law 313 = .ok (.iload 4, 2) := by decide +kernel
theorem dL_law_315 : decode cL_law 315 = .ok (.iconst 2, 1) := by decide +kernel
theorem dL_law_316 : decode cL_law 316 = .ok (.iadd, 1) := by decide +kernel
theorem dL_law_317 : decode cL_law 317 = .ok (.iaload, 1) := by decide +kernel
theorem dL_law_318 : decode cL_law 318 = .ok (.aload_n 0, 1) := by decide +kernel
theorem dL_law_319 : decode cL_law 319 = .ok (.iload 4, 2) := by decide +kernel
theorem dL_law_321 : decode cL_law 321 = .ok (.iconst 3, 1) := by decide +kernel
theorem dL_law_322 : decode cL_law 322 = .ok (.iadd, 1) := by decide +kernel
theorem dL_law_323 : decode cL_law 323 = .ok (.iaload, 1) := by decide +kernel
theorem dL_law_324 : decode cL_law 324 = .ok (.invokestatic 100, 3) := by decide +kernel
theorem dL_law_327 : decode cL_law 327 = .ok (.istore 5, 2) := by decide +kernel
theorem dL_law_329 : decode cL_law 329 = .ok (.aload_n 2, 1) := by decide +kernel
theorem dL_law_330 : decode cL_law 330 = .ok (.aload_n 0, 1) := by decide +kernel
theorem dL_law_331 : decode cL_law 331 = .ok (.iload 4, 2) := by decide +kernel
theorem dL_law_333 : decode cL_law 333 = .ok (.iconst 1, 1) := by decide +kernel
theorem dL_law_334 : decode cL_law 334 = .ok (.iadd, 1) := by decide +kernel
theorem dL_law_335 : decode cL_law 335 = .ok (.iaload, 1) := by decide +kernel
theorem dL_law_336 : decode cL_law 336 = .ok (.aload_n 0, 1) := by decide +kernel
theorem dL_law_337 : decode cL_law 337 = .ok (.iload 4, 2) := by decide +kernel
theorem dL_law_339 : decode cL_law 339 = .ok (.iconst 2, 1) := by decide +kernel
theorem dL_law_340 : decode cL_law 340 = .ok (.iadd, 1) := by decide +kernel
end
section
theorem dL_law_341 : decode cL_law 341 = .ok (.iaload, 1) := by decide +kernel
theorem dL_law_342 : decode cL_law 342 = .ok (.aload_n 0, 1) := by decide +kernel
theorem dL_law_343 : decode cL_law 343 = .ok (.iload 4, 2) := by decide +kernel
theorem dL_law_345 : decode cL_law 345 = .ok (.iconst 3, 1) := by decide +kernel
theorem dL_law_346 : decode cL_law 346 = .ok (.iadd, 1) := by decide +kernel
theorem dL_law_347 : decode cL_law 347 = .ok (.iaload, 1) := by decide +kernel
theorem dL_law_348 : decode cL_law 348 = .ok (.invokevirtual 103, 3) := by decide +kernel
theorem dL_law_351 : decode cL_law 351 = .ok (.aload_n 2, 1) := by decide +kernel
theorem dL_law_352 : decode cL_law 352 = .ok (.invokevirtual 87, 3) := by decide +kernel
theorem dL_law_355 : decode cL_law 355 = .ok (.iload 5, 2) := by decide +kernel
theorem dL_law_357 : decode cL_law 357 = .ok (.if_icmp .eq 5, 3) := by decide +kernel
theorem dL_law_360 : decode cL_law 360 = .ok (.iconst 0, 1) := by decide +kernel
theorem dL_law_361 : decode cL_law 361 = .ok (.ireturn, 1) := by decide +kernel
theorem dL_law_362 : decode cL_law 362 = .ok (.goto 1052, 3) := by decide +kernel
theorem dL_law_365 : decode cL_law 365 = .ok (.aload_n 1, 1) := by decide +kernel
theorem dL_law_366 : decode cL_law 366 = .ok (.aload_n 0, 1) := by decide +kernel
theorem dL_law_367 : decode cL_law 367 = .ok (.iload 4, 2) := by decide +kernel
theorem dL_law_369 : decode cL_law 369 = .ok (.iconst 1, 1) := by decide +kernel
theorem dL_law_370 : decode cL_law 370 = .ok (.iadd, 1) := by decide +kernel
theorem dL_law_371 : decode cL_law 371 = .ok (.iaload, 1) := by decide +kernel
theorem dL_law_372 : decode cL_law 372 = .ok (.aload_n 0, 1) := by decide +kernel
theorem dL_law_373 : decode cL_law 373 = .ok (.iload 4, 2) := by decide +kernel
theorem dL_law_375 : decode cL_law 375 = .ok (.iconst 2, 1) := by decide +kernel
theorem dL_law_376 : decode cL_law 376 = .ok (.iadd, 1) := by decide +kernel
theorem dL_law_377 : decode cL_law 377 = .ok (.iaload, 1) := by decide +kernel
theorem dL_law_378 : decode cL_law 378 = .ok (.invokestatic 104, 3) := by decide +kernel
theorem dL_law_381 : decode cL_law 381 = .ok (.istore 5, 2) := by decide +kernel
theorem dL_law_383 : decode cL_law 383 = .ok (.aload_n 2, 1) := by decide +kernel
theorem dL_law_384 : decode cL_law 384 = .ok (.aload_n 0, 1) := by decide +kernel
theorem dL_law_385 : decode cL_law 385 = .ok (.iload 4, 2) := by decide +kernel
theorem dL_law_387 : decode cL_law 387 = .ok (.iconst 1, 1) := by decide +kernel
theorem dL_law_388 : decode cL_law 388 = .ok (.iadd, 1) := by decide +kernel
theorem dL_law_389 : decode cL_law 389 = .ok (.iaload, 1) := by decide +kernel
theorem dL_law_390 : decode cL_law 390 = .ok (.aload_n 0, 1) := by decide +kernel
theorem dL_law_391 : decode cL_law 391 = .ok (.iload 4, 2) := by decide +kernel
theorem dL_law_393 : decode cL_law 393 = .ok (.iconst 2, 1) := by decide +kernel
theorem dL_law_394 : decode cL_law 394 = .ok (.iadd, 1) := by decide +kernel
theorem dL_law_395 : decode cL_law 395 = .ok (.iaload, 1) := by decide +kernel
theorem dL_law_396 : decode cL_law 396 = .ok (.invokevirtual 106, 3) := by decide +kernel
theorem dL_law_399 : decode cL_law 399 = .ok (.aload_n 2, 1) := by decide +kernel
theorem dL_law_400 : decode cL_law 400 = .ok (.invokevirtual 87, 3) := by decide +kernel
theorem dL_law_403 : decode cL_law 403 = .ok (.iload 5, 2) := by decide +kernel
theorem dL_law_405 : decode cL_law 405 = .ok (.if_icmp .eq 5, 3) := by decide +kernel
theorem dL_law_408 : decode cL_law 408 = .ok (.iconst 0, 1) := by decide +kernel
theorem dL_law_409 : decode cL_law 409 = .ok (.ireturn, 1) := by decide +kernel
theorem dL_law_410 : decode cL_law 410 = .ok (.goto 1004, 3) := by decide +kernel
theorem dL_law_413 : decode cL_law 413 = .ok (.aload_n 1, 1) := by decide +kernel
theorem dL_law_414 : decode cL_law 414 = .ok (.aload_n 0, 1) := by decide +kernel
theorem dL_law_415 : decode cL_law 415 = .ok (.iload 4, 2) := by decide +kernel
theorem dL_law_417 : decode cL_law 417 = .ok (.iconst 1, 1) := by decide +kernel
theorem dL_law_418 : decode cL_law 418 = .ok (.iadd, 1) := by decide +kernel
theorem dL_law_419 : decode cL_law 419 = .ok (.iaload, 1) := by decide +kernel
theorem dL_law_420 : decode cL_law 420 = .ok (.aload_n 0, 1) := by decide +kernel
theorem dL_law_421 : decode cL_law 421 = .ok (.iload 4, 2) := by decide +kernel
theorem dL_law_423 : decode cL_law 423 = .ok (.iconst 2, 1) := by decide +kernel
theorem dL_law_424 : decode cL_law 424 = .ok (.iadd, 1) := by decide +kernel
theorem dL_law_425 : decode cL_law 425 = .ok (.iaload, 1) := by decide +kernel
theorem dL_law_426 : decode cL_law 426 = .ok (.invokestatic 107, 3) := by decide +kernel
theorem dL_law_429 : decode cL_law 429 = .ok (.istore 5, 2) := by decide +kernel
theorem dL_law_431 : decode cL_law 431 = .ok (.aload_n 2, 1) := by decide +kernel
theorem dL_law_432 : decode cL_law 432 = .ok (.aload_n 0, 1) := by decide +kernel
theorem dL_law_433 : decode cL_law 433 = .ok (.iload 4, 2) := by decide +kernel
theorem dL_law_435 : decode cL_law 435 = .ok (.iconst 1, 1) := by decide +kernel
theorem dL_law_436 : decode cL_law 436 = .ok (.iadd, 1) := by decide +kernel
theorem dL_law_437 : decode cL_law 437 = .ok (.iaload, 1) := by decide +kernel
theorem dL_law_438 : decode cL_law 438 = .ok (.aload_n 0, 1) := by decide +kernel
theorem dL_law_439 : decode cL_law 439 = .ok (.iload 4, 2) := by decide +kernel
theorem dL_law_441 : decode cL_law 441 = .ok (.iconst 2, 1) := by decide +kernel
theorem dL_law_442 : decode cL_law 442 = .ok (.iadd, 1) := by decide +kernel
theorem dL_law_443 : decode cL_law 443 = .ok (.iaload, 1) := by decide +kernel
theorem dL_law_444 : decode cL_law 444 = .ok (.invokevirtual 109, 3) := by decide +kernel
theorem dL_law_447 : decode cL_law 447 = .ok (.aload_n 2, 1) := by decide +kernel
theorem dL_law_448 : decode cL_law 448 = .ok (.invokevirtual 87, 3) := by decide +kernel
theorem dL_law_451 : decode cL_law 451 = .ok (.iload 5, 2) := by decide +kernel
theorem dL_law_453 : decode cL_law 453 = .ok (.if_icmp .eq 5, 3) := by decide +kernel
theorem dL_law_456 : decode cL_law 456 = .ok (.iconst 0, 1) := by decide +kernel
theorem dL_law_457 : decode cL_law 457 = .ok (.ireturn, 1) := by decide +kernel
theorem dL_law_458 : decode cL_law 458 = .ok (.goto 956, 3) := by decide +kernel
theorem dL_law_461 : decode cL_law 461 = .ok (.aload_n 1, 1) := by decide +kernel
theorem dL_law_462 : decode cL_law 462 = .ok (.aload_n 0, 1) := by decide +kernel
theorem dL_law_463 : decode cL_law 463 = .ok (.iload 4, 2) := by decide +kernel
theorem dL_law_465 : decode cL_law 465 = .ok (.iconst 1, 1) := by decide +kernel
theorem dL_law_466 : decode cL_law 466 = .ok (.iadd, 1) := by decide +kernel
theorem dL_law_467 : decode cL_law 467 = .ok (.iaload, 1) := by decide +kernel
theorem dL_law_468 : decode cL_law 468 = .ok (.aload_n 0, 1) := by decide +kernel
theorem dL_law_469 : decode cL_law 469 = .ok (.iload 4, 2) := by decide +kernel
theorem dL_law_471 : decode cL_law 471 = .ok (.iconst 2, 1) := by decide +kernel
theorem dL_law_472 : decode cL_law 472 = .ok (.iadd, 1) := by decide +kernel
theorem dL_law_473 : decode cL_law 473 = .ok (.iaload, 1) := by decide +kernel
theorem dL_law_474 : decode cL_law 474 = .ok (.aload_n 0, 1) := by decide +kernel
theorem dL_law_475 : decode cL_law 475 = .ok (.iload 4, 2) := by decide +kernel
theorem dL_law_477 : decode cL_law 477 = .ok (.iconst 3, 1) := by decide +kernel
theorem dL_law_478 : decode cL_law 478 = .ok (.iadd, 1) := by decide +kernel
theorem dL_law_479 : decode cL_law 479 = .ok (.iaload, 1) := by decide +kernel
theorem dL_law_480 : decode cL_law 480 = .ok (.aload_n 0, 1) := by decide +kernel
theorem dL_law_481 : decode cL_law 481 = .ok (.iload 4, 2) := by decide +kernel
theorem dL_law_483 : decode cL_law 483 = .ok (.iconst 4, 1) := by decide +kernel
theorem dL_law_484 : decode cL_law 484 = .ok (.iadd, 1) := by decide +kernel
theorem dL_law_485 : decode cL_law 485 = .ok (.iaload, 1) := by decide +kernel
theorem dL_law_486 : decode cL_law 486 = .ok (.invokestatic 110, 3) := by decide +kernel
theorem dL_law_489 : decode cL_law 489 = .ok (.istore 5, 2) := by decide +kernel
theorem dL_law_491 : decode cL_law 491 = .ok (.aload_n 2, 1) := by decide +kernel
theorem dL_law_492 : decode cL_law 492 = .ok (.aload_n 0, 1) := by decide +kernel
theorem dL_law_493 : decode cL_law 493 = .ok (.iload 4, 2) := by decide +kernel
theorem dL_law_495 : decode cL_law 495 = .ok (.iconst 1, 1) := by decide +kernel
theorem dL_law_496 : decode cL_law 496 = .ok (.iadd, 1) := by decide +kernel
theorem dL_law_497 : decode cL_law 497 = .ok (.iaload, 1) := by decide +kernel
theorem dL_law_498 : decode cL_law 498 = .ok (.aload_n 0, 1) := by decide +kernel
theorem dL_law_499 : decode cL_law 499 = .ok (.iload 4, 2) := by decide +kernel
theorem dL_law_501 : decode cL_law 501 = .ok (.iconst 2, 1) := by decide +kernel
theorem dL_law_502 : decode cL_law 502 = .ok (.iadd, 1) := by decide +kernel
theorem dL_law_503 : decode cL_law 503 = .ok (.iaload, 1) := by decide +kernel
theorem dL_law_504 : decode cL_law 504 = .ok (.aload_n 0, 1) := by decide +kernel
theorem dL_law_505 : decode cL_law 505 = .ok (.iload 4, 2) := by decide +kernel
theorem dL_law_507 : decode cL_law 507 = .ok (.iconst 3, 1) := by decide +kernel
theorem dL_law_508 : decode cL_law 508 = .ok (.iadd, 1) := by decide +kernel
theorem dL_law_509 : decode cL_law 509 = .ok (.iaload, 1) := by decide +kernel
theorem dL_law_510 : decode cL_law 510 = .ok (.aload_n 0, 1) := by decide +kernel
theorem dL_law_511 : decode cL_law 511 = .ok (.iload 4, 2) := by decide +kernel
theorem dL_law_513 : decode cL_law 513 = .ok (.iconst 4, 1) := by decide +kernel
theorem dL_law_514 : decode cL_law 514 = .ok (.iadd, 1) := by decide +kernel
theorem dL_law_515 : decode cL_law 515 = .ok (.iaload, 1) := by decide +kernel
theorem dL_law_516 : decode cL_law 516 = .ok (.invokevirtual 113, 3) := by decide +kernel
theorem dL_law_519 : decode cL_law 519 = .ok (.aload_n 2, 1) := by decide +kernel
theorem dL_law_520 : decode cL_law 520 = .ok (.invokevirtual 87, 3) := by decide +kernel
theorem dL_law_523 : decode cL_law 523 = .ok (.iload 5, 2) := by decide +kernel
theorem dL_law_525 : decode cL_law 525 = .ok (.if_icmp .eq 5, 3) := by decide +kernel
theorem dL_law_528 : decode cL_law 528 = .ok (.iconst 0, 1) := by decide +kernel
theorem dL_law_529 : decode cL_law 529 = .ok (.ireturn, 1) := by decide +kernel
theorem dL_law_530 : decode cL_law 530 = .ok (.goto 884, 3) := by decide +kernel
theorem dL_law_533 : decode cL_law 533 = .ok (.aload_n 1, 1) := by decide +kernel
theorem dL_law_534 : decode cL_law 534 = .ok (.aload_n 0, 1) := by decide +kernel
theorem dL_law_535 : decode cL_law 535 = .ok (.iload 4, 2) := by decide +kernel
theorem dL_law_537 : decode cL_law 537 = .ok (.iconst 1, 1) := by decide +kernel
theorem dL_law_538 : decode cL_law 538 = .ok (.iadd, 1) := by decide +kernel
theorem dL_law_539 : decode cL_law 539 = .ok (.iaload, 1) := by decide +kernel
theorem dL_law_540 : decode cL_law 540 = .ok (.aload_n 0, 1) := by decide +kernel
theorem dL_law_541 : decode cL_law 541 = .ok (.iload 4, 2) := by decide +kernel
theorem dL_law_543 : decode cL_law 543 = .ok (.iconst 2, 1) := by decide +kernel
theorem dL_law_544 : decode cL_law 544 = .ok (.iadd, 1) := by decide +kernel
theorem dL_law_545 : decode cL_law 545 = .ok (.iaload, 1) := by decide +kernel
theorem dL_law_546 : decode cL_law 546 = .ok (.aload_n 0, 1) := by decide +kernel
theorem dL_law_547 : decode cL_law 547 = .ok (.iload 4, 2) := by decide +kernel
theorem dL_law_549 : decode cL_law 549 = .ok (.iconst 3, 1) := by decide +kernel
theorem dL_law_550 : decode cL_law 550 = .ok (.iadd, 1) := by decide +kernel
theorem dL_law_551 : decode cL_law 551 = .ok (.iaload, 1) := by decide +kernel
theorem dL_law_552 : decode cL_law 552 = .ok (.invokestatic 114, 3) := by decide +kernel
theorem dL_law_555 : decode cL_law 555 = .ok (.istore 5, 2) := by decide +kernel
theorem dL_law_557 : decode cL_law 557 = .ok (.aload_n 2, 1) := by decide +kernel
theorem dL_law_558 : decode cL_law 558 = .ok (.aload_n 0, 1) := by decide +kernel
theorem dL_law_559 : decode cL_law 559 = .ok (.iload 4, 2) := by decide +kernel
theorem dL_law_561 : decode cL_law 561 = .ok (.iconst 1, 1) := by decide +kernel
theorem dL_law_562 : decode cL_law 562 = .ok (.iadd, 1) := by decide +kernel
theorem dL_law_563 : decode cL_law 563 = .ok (.iaload, 1) := by decide +kernel
theorem dL_law_564 : decode cL_law 564 = .ok (.aload_n 0, 1) := by decide +kernel
theorem dL_law_565 : decode cL_law 565 = .ok (.iload 4, 2) := by decide +kernel
theorem dL_law_567 : decode cL_law 567 = .ok (.iconst 2, 1) := by decide +kernel
theorem dL_law_568 : decode cL_law 568 = .ok (.iadd, 1) := by decide +kernel
theorem dL_law_569 : decode cL_law 569 = .ok (.iaload, 1) := by decide +kernel
theorem dL_law_570 : decode cL_law 570 = .ok (.aload_n 0, 1) := by decide +kernel
theorem dL_law_571 : decode cL_law 571 = .ok (.iload 4, 2) := by decide +kernel
theorem dL_law_573 : decode cL_law 573 = .ok (.iconst 3, 1) := by decide +kernel
theorem dL_law_574 : decode cL_law 574 = .ok (.iadd, 1) := by decide +kernel
theorem dL_law_575 : decode cL_law 575 = .ok (.iaload, 1) := by decide +kernel
theorem dL_law_576 : decode cL_law 576 = .ok (.invokevirtual 116, 3) := by decide +kernel
theorem dL_law_579 : decode cL_law 579 = .ok (.aload_n 2, 1) := by decide +kernel
theorem dL_law_580 : decode cL_law 580 = .ok (.invokevirtual 87, 3) := by decide +kernel
theorem dL_law_583 : decode cL_law 583 = .ok (.iload 5, 2) := by decide +kernel
theorem dL_law_585 : decode cL_law 585 = .ok (.if_icmp .eq 5, 3) := by decide +kernel
theorem dL_law_588 : decode cL_law 588 = .ok (.iconst 0, 1) := by decide +kernel
theorem dL_law_589 : decode cL_law 589 = .ok (.ireturn, 1) := by decide +kernel
theorem dL_law_590 : decode cL_law 590 = .ok (.goto 824, 3) := by decide +kernel
theorem dL_law_593 : decode cL_law 593 = .ok (.aload_n 1, 1) := by decide +kernel
theorem dL_law_594 : decode cL_law 594 = .ok (.aload_n 0, 1) := by decide +kernel
theorem dL_law_595 : decode cL_law 595 = .ok (.iload 4, 2) := by decide +kernel
theorem dL_law_597 : decode cL_law 597 = .ok (.iconst 1, 1) := by decide +kernel
theorem dL_law_598 : decode cL_law 598 = .ok (.iadd, 1) := by decide +kernel
theorem dL_law_599 : decode cL_law 599 = .ok (.iaload, 1) := by decide +kernel
theorem dL_law_600 : decode cL_law 600 = .ok (.aload_n 0, 1) := by decide +kernel
theorem dL_law_601 : decode cL_law 601 = .ok (.iload 4, 2) := by decide +kernel
theorem dL_law_603 : decode cL_law 603 = .ok (.iconst 2, 1) := by decide +kernel
theorem dL_law_604 : decode cL_law 604 = .ok (.iadd, 1) := by decide +kernel
theorem dL_law_605 : decode cL_law 605 = .ok (.iaload, 1) := by decide +kernel
theorem dL_law_606 : decode cL_law 606 = .ok (.invokestatic 117, 3) := by decide +kernel
theorem dL_law_609 : decode cL_law 609 = .ok (.istore 5, 2) := by decide +kernel
theorem dL_law_611 : decode cL_law 611 = .ok (.aload_n 2, 1) := by decide +kernel
theorem dL_law_612 : decode cL_law 612 = .ok (.aload_n 0, 1) := by decide +kernel
theorem dL_law_613 : decode cL_law 613 = .ok (.iload 4, 2) := by decide +kernel
theorem dL_law_615 : decode cL_law 615 = .ok (.iconst 1, 1) := by decide +kernel
theorem dL_law_616 : decode cL_law 616 = .ok (.iadd, 1) := by decide +kernel
theorem dL_law_617 : decode cL_law 617 = .ok (.iaload, 1) := by decide +kernel
theorem dL_law_618 : decode cL_law 618 = .ok (.aload_n 0, 1) := by decide +kernel
theorem dL_law_619 : decode cL_law 619 = .ok (.iload 4, 2) := by decide +kernel
theorem dL_law_621 : decode cL_law 621 = .ok (.iconst 2, 1) := by decide +kernel
theorem dL_law_622 : decode cL_law 622 = .ok (.iadd, 1) := by decide +kernel
theorem dL_law_623 : decode cL_law 623 = .ok (.iaload, 1) := by decide +kernel
theorem dL_law_624 : decode cL_law 624 = .ok (.invokevirtual 119, 3) := by decide +kernel
theorem dL_law_627 : decode cL_law 627 = .ok (.aload_n 2, 1) := by decide +kernel
theorem dL_law_628 : decode cL_law 628 = .ok (.invokevirtual 87, 3) := by decide +kernel
theorem dL_law_631 : decode cL_law 631 = .ok (.iload 5, 2) := by decide +kernel
theorem dL_law_633 : decode cL_law 633 = .ok (.if_icmp .eq 5, 3) := by decide +kernel
theorem dL_law_636 : decode cL_law 636 = .ok (.iconst 0, 1) := by decide +kernel
theorem dL_law_637 : decode cL_law 637 = .ok (.ireturn, 1) := by decide +kernel
theorem dL_law_638 : decode cL_law 638 = .ok (.goto 776, 3) := by decide +kernel
theorem dL_law_641 : decode cL_law 641 = .ok (.aload_n 1, 1) := by decide +kernel
theorem dL_law_642 : decode cL_law 642 = .ok (.aload_n 0, 1) := by decide +kernel
theorem dL_law_643 : decode cL_law 643 = .ok (.iload 4, 2) := by decide +kernel
theorem dL_law_645 : decode cL_law 645 = .ok (.iconst 1, 1) := by decide +kernel
theorem dL_law_646 : decode cL_law 646 = .ok (.iadd, 1) := by decide +kernel
theorem dL_law_647 : decode cL_law 647 = .ok (.iaload, 1) := by decide +kernel
theorem dL_law_648 : decode cL_law 648 = .ok (.aload_n 0, 1) := by decide +kernel
theorem dL_law_649 : decode cL_law 649 = .ok (.iload 4, 2) := by decide +kernel
theorem dL_law_651 : decode cL_law 651 = .ok (.iconst 2, 1) := by decide +kernel
theorem dL_law_652 : decode cL_law 652 = .ok (.iadd, 1) := by decide +kernel
theorem dL_law_653 : decode cL_law 653 = .ok (.iaload, 1) := by decide +kernel
theorem dL_law_654 : decode cL_law 654 = .ok (.aload_n 0, 1) := by decide +kernel
theorem dL_law_655 : decode cL_law 655 = .ok (.iload 4, 2) := by decide +kernel
theorem dL_law_657 : decode cL_law 657 = .ok (.iconst 3, 1) := by decide +kernel
theorem dL_law_658 : decode cL_law 658 = .ok (.iadd, 1) := by decide +kernel
theorem dL_law_659 : decode cL_law 659 = .ok (.iaload, 1) := by decide +kernel
theorem dL_law_660 : decode cL_law 660 = .ok (.aload_n 3, 1) := by decide +kernel
theorem dL_law_661 : decode cL_law 661 = .ok (.invokestatic 120, 3) := by decide +kernel
theorem dL_law_664 : decode cL_law 664 = .ok (.istore 5, 2) := by decide +kernel
theorem dL_law_666 : decode cL_law 666 = .ok (.aload_n 2, 1) := by decide +kernel
theorem dL_law_667 : decode cL_law 667 = .ok (.aload_n 0, 1) := by decide +kernel
theorem dL_law_668 : decode cL_law 668 = .ok (.iload 4, 2) := by decide +kernel
theorem dL_law_670 : decode cL_law 670 = .ok (.iconst 1, 1) := by decide +kernel
theorem dL_law_671 : decode cL_law 671 = .ok (.iadd, 1) := by decide +kernel
theorem dL_law_672 : decode cL_law 672 = .ok (.iaload, 1) := by decide +kernel
theorem dL_law_673 : decode cL_law 673 = .ok (.aload_n 0, 1) := by decide +kernel
theorem dL_law_674 : decode cL_law 674 = .ok (.iload 4, 2) := by decide +kernel
theorem dL_law_676 : decode cL_law 676 = .ok (.iconst 2, 1) := by decide +kernel
theorem dL_law_677 : decode cL_law 677 = .ok (.iadd, 1) := by decide +kernel
theorem dL_law_678 : decode cL_law 678 = .ok (.iaload, 1) := by decide +kernel
theorem dL_law_679 : decode cL_law 679 = .ok (.aload_n 0, 1) := by decide +kernel
theorem dL_law_680 : decode cL_law 680 = .ok (.iload 4, 2) := by decide +kernel
theorem dL_law_682 : decode cL_law 682 = .ok (.iconst 3, 1) := by decide +kernel
theorem dL_law_683 : decode cL_law 683 = .ok (.iadd, 1) := by decide +kernel
theorem dL_law_684 : decode cL_law 684 = .ok (.iaload, 1) := by decide +kernel
theorem dL_law_685 : decode cL_law 685 = .ok (.invokevirtual 123, 3) := by decide +kernel
theorem dL_law_688 : decode cL_law 688 = .ok (.istore 6, 2) := by decide +kernel
theorem dL_law_690 : decode cL_law 690 = .ok (.aload_n 2, 1) := by decide +kernel
theorem dL_law_691 : decode cL_law 691 = .ok (.invokevirtual 87, 3) := by decide +kernel
theorem dL_law_694 : decode cL_law 694 = .ok (.iload 5, 2) := by decide +kernel
theorem dL_law_696 : decode cL_law 696 = .ok (.if_icmp .eq 5, 3) := by decide +kernel
theorem dL_law_699 : decode cL_law 699 = .ok (.iconst 0, 1) := by decide +kernel
theorem dL_law_700 : decode cL_law 700 = .ok (.ireturn, 1) := by decide +kernel
theorem dL_law_701 : decode cL_law 701 = .ok (.iload 5, 2) := by decide +kernel
theorem dL_law_703 : decode cL_law 703 = .ok (.ifCond .ne 15, 3) := by decide +kernel
theorem dL_law_706 : decode cL_law 706 = .ok (.aload_n 3, 1) := by decide +kernel
theorem dL_law_707 : decode cL_law 707 = .ok (.iconst 0, 1) := by decide +kernel
theorem dL_law_708 : decode cL_law 708 = .ok (.laload, 1) := by decide +kernel
theorem dL_law_709 : decode cL_law 709 = .ok (.iload 6, 2) := by decide +kernel
theorem dL_law_711 : decode cL_law 711 = .ok (.i2l, 1) := by decide +kernel
theorem dL_law_712 : decode cL_law 712 = .ok (.lcmp, 1) := by decide +kernel
theorem dL_law_713 : decode cL_law 713 = .ok (.ifCond .eq 5, 3) := by decide +kernel
theorem dL_law_716 : decode cL_law 716 = .ok (.iconst 0, 1) := by decide +kernel
theorem dL_law_717 : decode cL_law 717 = .ok (.ireturn, 1) := by decide +kernel
theorem dL_law_718 : decode cL_law 718 = .ok (.goto 696, 3) := by decide +kernel
theorem dL_law_721 : decode cL_law 721 = .ok (.aload_n 1, 1) := by decide +kernel
theorem dL_law_722 : decode cL_law 722 = .ok (.invokevirtual 124, 3) := by decide +kernel
theorem dL_law_725 : decode cL_law 725 = .ok (.aload_n 2, 1) := by decide +kernel
theorem dL_law_726 : decode cL_law 726 = .ok (.invokevirtual 127, 3) := by decide +kernel
theorem dL_law_729 : decode cL_law 729 = .ok (.if_icmp .eq 685, 3) := by decide +kernel
theorem dL_law_732 : decode cL_law 732 = .ok (.iconst 0, 1) := by decide +kernel
theorem dL_law_733 : decode cL_law 733 = .ok (.ireturn, 1) := by decide +kernel
theorem dL_law_734 : decode cL_law 734 = .ok (.aload_n 1, 1) := by decide +kernel
theorem dL_law_735 : decode cL_law 735 = .ok (.invokevirtual 128, 3) := by decide +kernel
theorem dL_law_738 : decode cL_law 738 = .ok (.aload_n 2, 1) := by decide +kernel
theorem dL_law_739 : decode cL_law 739 = .ok (.invokevirtual 132, 3) := by decide +kernel
theorem dL_law_742 : decode cL_law 742 = .ok (.if_icmp .eq 672, 3) := by decide +kernel
theorem dL_law_745 : decode cL_law 745 = .ok (.iconst 0, 1) := by decide +kernel
theorem dL_law_746 : decode cL_law 746 = .ok (.ireturn, 1) := by decide +kernel
theorem dL_law_747 : decode cL_law 747 = .ok (.aload_n 1, 1) := by decide +kernel
theorem dL_law_748 : decode cL_law 748 = .ok (.invokevirtual 133, 3) := by decide +kernel
theorem dL_law_751 : decode cL_law 751 = .ok (.aload_n 2, 1) := by decide +kernel
theorem dL_law_752 : decode cL_law 752 = .ok (.invokevirtual 136, 3) := by decide +kernel
theorem dL_law_755 : decode cL_law 755 = .ok (.if_icmp .eq 659, 3) := by decide +kernel
theorem dL_law_758 : decode cL_law 758 = .ok (.iconst 0, 1) := by decide +kernel
theorem dL_law_759 : decode cL_law 759 = .ok (.ireturn, 1) := by decide +kernel
theorem dL_law_760 : decode cL_law 760 = .ok (.aload_n 1, 1) := by decide +kernel
theorem dL_law_761 : decode cL_law 761 = .ok (.aload_n 0, 1) := by decide +kernel
theorem dL_law_762 : decode cL_law 762 = .ok (.iload 4, 2) := by decide +kernel
theorem dL_law_764 : decode cL_law 764 = .ok (.iconst 1, 1) := by decide +kernel
theorem dL_law_765 : decode cL_law 765 = .ok (.iadd, 1) := by decide +kernel
theorem dL_law_766 : decode cL_law 766 = .ok (.iaload, 1) := by decide +kernel
theorem dL_law_767 : decode cL_law 767 = .ok (.aload_n 3, 1) := by decide +kernel
theorem dL_law_768 : decode cL_law 768 = .ok (.invokestatic 137, 3) := by decide +kernel
theorem dL_law_771 : decode cL_law 771 = .ok (.istore 5, 2) := by decide +kernel
theorem dL_law_773 : decode cL_law 773 = .ok (.aload_n 2, 1) := by decide +kernel
theorem dL_law_774 : decode cL_law 774 = .ok (.aload_n 0, 1) := by decide +kernel
theorem dL_law_775 : decode cL_law 775 = .ok (.iload 4, 2) := by decide +kernel
theorem dL_law_777 : decode cL_law 777 = .ok (.iconst 1, 1) := by decide +kernel
theorem dL_law_778 : decode cL_law 778 = .ok (.iadd, 1) := by decide +kernel
theorem dL_law_779 : decode cL_law 779 = .ok (.iaload, 1) := by decide +kernel
theorem dL_law_780 : decode cL_law 780 = .ok (.invokevirtual 139, 3) := by decide +kernel
theorem dL_law_783 : decode cL_law 783 = .ok (.istore 6, 2) := by decide +kernel
theorem dL_law_785 : decode cL_law 785 = .ok (.aload_n 2, 1) := by decide +kernel
theorem dL_law_786 : decode cL_law 786 = .ok (.invokevirtual 87, 3) := by decide +kernel
theorem dL_law_789 : decode cL_law 789 = .ok (.iload 5, 2) := by decide +kernel
theorem dL_law_791 : decode cL_law 791 = .ok (.if_icmp .eq 5, 3) := by decide +kernel
theorem dL_law_794 : decode cL_law 794 = .ok (.iconst 0, 1) := by decide +kernel
theorem dL_law_795 : decode cL_law 795 = .ok (.ireturn, 1) := by decide +kernel
theorem dL_law_796 : decode cL_law 796 = .ok (.iload 5, 2) := by decide +kernel
theorem dL_law_798 : decode cL_law 798 = .ok (.ifCond .ne 15, 3) := by decide +kernel
theorem dL_law_801 : decode cL_law 801 = .ok (.aload_n 3, 1) := by decide +kernel
theorem dL_law_802 : decode cL_law 802 = .ok (.iconst 0, 1) := by decide +kernel
theorem dL_law_803 : decode cL_law 803 = .ok (.laload, 1) := by decide +kernel
theorem dL_law_804 : decode cL_law 804 = .ok (.iload 6, 2) := by decide +kernel
theorem dL_law_806 : decode cL_law 806 = .ok (.i2l, 1) := by decide +kernel
theorem dL_law_807 : decode cL_law 807 = .ok (.lcmp, 1) := by decide +kernel
theorem dL_law_808 : decode cL_law 808 = .ok (.ifCond .eq 5, 3) := by decide +kernel
theorem dL_law_811 : decode cL_law 811 = .ok (.iconst 0, 1) := by decide +kernel
theorem dL_law_812 : decode cL_law 812 = .ok (.ireturn, 1) := by decide +kernel
theorem dL_law_813 : decode cL_law 813 = .ok (.goto 601, 3) := by decide +kernel
theorem dL_law_816 : decode cL_law 816 = .ok (.aload_n 1, 1) := by decide +kernel
theorem dL_law_817 : decode cL_law 817 = .ok (.invokevirtual 140, 3) := by decide +kernel
theorem dL_law_820 : decode cL_law 820 = .ok (.aload_n 2, 1) := by decide +kernel
theorem dL_law_821 : decode cL_law 821 = .ok (.invokevirtual 143, 3) := by decide +kernel
theorem dL_law_824 : decode cL_law 824 = .ok (.if_icmp .eq 590, 3) := by decide +kernel
theorem dL_law_827 : decode cL_law 827 = .ok (.iconst 0, 1) := by decide +kernel
theorem dL_law_828 : decode cL_law 828 = .ok (.ireturn, 1) := by decide +kernel
theorem dL_law_829 : decode cL_law 829 = .ok (.aload_n 1, 1) := by decide +kernel
theorem dL_law_830 : decode cL_law 830 = .ok (.invokevirtual 144, 3) := by decide +kernel
theorem dL_law_833 : decode cL_law 833 = .ok (.aload_n 2, 1) := by decide +kernel
theorem dL_law_834 : decode cL_law 834 = .ok (.invokevirtual 147, 3) := by decide +kernel
theorem dL_law_837 : decode cL_law 837 = .ok (.if_icmp .eq 577, 3) := by decide +kernel
theorem dL_law_840 : decode cL_law 840 = .ok (.iconst 0, 1) := by decide +kernel
theorem dL_law_841 : decode cL_law 841 = .ok (.ireturn, 1) := by decide +kernel
theorem dL_law_842 : decode cL_law 842 = .ok (.aload_n 1, 1) := by decide +kernel
theorem dL_law_843 : decode cL_law 843 = .ok (.aload_n 0, 1) := by decide +kernel
theorem dL_law_844 : decode cL_law 844 = .ok (.iload 4, 2) := by decide +kernel
theorem dL_law_846 : decode cL_law 846 = .ok (.iconst 1, 1) := by decide +kernel
theorem dL_law_847 : decode cL_law 847 = .ok (.iadd, 1) := by decide +kernel
theorem dL_law_848 : decode cL_law 848 = .ok (.iaload, 1) := by decide +kernel
theorem dL_law_849 : decode cL_law 849 = .ok (.aload_n 3, 1) := by decide +kernel
theorem dL_law_850 : decode cL_law 850 = .ok (.invokestatic 148, 3) := by decide +kernel
theorem dL_law_853 : decode cL_law 853 = .ok (.istore 5, 2) := by decide +kernel
theorem dL_law_855 : decode cL_law 855 = .ok (.aload_n 2, 1) := by decide +kernel
theorem dL_law_856 : decode cL_law 856 = .ok (.aload_n 0, 1) := by decide +kernel
theorem dL_law_857 : decode cL_law 857 = .ok (.iload 4, 2) := by decide +kernel
theorem dL_law_859 : decode cL_law 859 = .ok (.iconst 1, 1) := by decide +kernel
theorem dL_law_860 : decode cL_law 860 = .ok (.iadd, 1) := by decide +kernel
theorem dL_law_861 : decode cL_law 861 = .ok (.iaload, 1) := by decide +kernel
theorem dL_law_862 : decode cL_law 862 = .ok (.invokevirtual 150, 3) := by decide +kernel
theorem dL_law_865 : decode cL_law 865 = .ok (.istore 6, 2) := by decide +kernel
theorem dL_law_867 : decode cL_law 867 = .ok (.aload_n 2, 1) := by decide +kernel
theorem dL_law_868 : decode cL_law 868 = .ok (.invokevirtual 87, 3) := by decide +kernel
theorem dL_law_871 : decode cL_law 871 = .ok (.iload 5, 2) := by decide +kernel
theorem dL_law_873 : decode cL_law 873 = .ok (.if_icmp .eq 5, 3) := by decide +kernel
theorem dL_law_876 : decode cL_law 876 = .ok (.iconst 0, 1) := by decide +kernel
theorem dL_law_877 : decode cL_law 877 = .ok (.ireturn, 1) := by decide +kernel
theorem dL_law_878 : decode cL_law 878 = .ok (.iload 5, 2) := by decide +kernel
theorem dL_law_880 : decode cL_law 880 = .ok (.ifCond .ne 15, 3) := by decide +kernel
theorem dL_law_883 : decode cL_law 883 = .ok (.aload_n 3, 1) := by decide +kernel
theorem dL_law_884 : decode cL_law 884 = .ok (.iconst 0, 1) := by decide +kernel
theorem dL_law_885 : decode cL_law 885 = .ok (.laload, 1) := by decide +kernel
theorem dL_law_886 : decode cL_law 886 = .ok (.iload 6, 2) := by decide +kernel
theorem dL_law_888 : decode cL_law 888 = .ok (.i2l, 1) := by decide +kernel
theorem dL_law_889 : decode cL_law 889 = .ok (.lcmp, 1) := by decide +kernel
theorem dL_law_890 : decode cL_law 890 = .ok (.ifCond .eq 5, 3) := by decide +kernel
theorem dL_law_893 : decode cL_law 893 = .ok (.iconst 0, 1) := by decide +kernel
theorem dL_law_894 : decode cL_law 894 = .ok (.ireturn, 1) := by decide +kernel
theorem dL_law_895 : decode cL_law 895 = .ok (.goto 519, 3) := by decide +kernel
theorem dL_law_898 : decode cL_law 898 = .ok (.aload_n 1, 1) := by decide +kernel
theorem dL_law_899 : decode cL_law 899 = .ok (.aload_n 0, 1) := by decide +kernel
theorem dL_law_900 : decode cL_law 900 = .ok (.iload 4, 2) := by decide +kernel
theorem dL_law_902 : decode cL_law 902 = .ok (.iconst 1, 1) := by decide +kernel
theorem dL_law_903 : decode cL_law 903 = .ok (.iadd, 1) := by decide +kernel
theorem dL_law_904 : decode cL_law 904 = .ok (.iaload, 1) := by decide +kernel
theorem dL_law_905 : decode cL_law 905 = .ok (.aload_n 3, 1) := by decide +kernel
theorem dL_law_906 : decode cL_law 906 = .ok (.invokestatic 151, 3) := by decide +kernel
theorem dL_law_909 : decode cL_law 909 = .ok (.istore 5, 2) := by decide +kernel
theorem dL_law_911 : decode cL_law 911 = .ok (.aload_n 2, 1) := by decide +kernel
theorem dL_law_912 : decode cL_law 912 = .ok (.aload_n 0, 1) := by decide +kernel
theorem dL_law_913 : decode cL_law 913 = .ok (.iload 4, 2) := by decide +kernel
theorem dL_law_915 : decode cL_law 915 = .ok (.iconst 1, 1) := by decide +kernel
theorem dL_law_916 : decode cL_law 916 = .ok (.iadd, 1) := by decide +kernel
theorem dL_law_917 : decode cL_law 917 = .ok (.iaload, 1) := by decide +kernel
theorem dL_law_918 : decode cL_law 918 = .ok (.invokevirtual 153, 3) := by decide +kernel
theorem dL_law_921 : decode cL_law 921 = .ok (.istore 6, 2) := by decide +kernel
theorem dL_law_923 : decode cL_law 923 = .ok (.aload_n 2, 1) := by decide +kernel
theorem dL_law_924 : decode cL_law 924 = .ok (.invokevirtual 87, 3) := by decide +kernel
theorem dL_law_927 : decode cL_law 927 = .ok (.iload 5, 2) := by decide +kernel
theorem dL_law_929 : decode cL_law 929 = .ok (.if_icmp .eq 5, 3) := by decide +kernel
theorem dL_law_932 : decode cL_law 932 = .ok (.iconst 0, 1) := by decide +kernel
theorem dL_law_933 : decode cL_law 933 = .ok (.ireturn, 1) := by decide +kernel
theorem dL_law_934 : decode cL_law 934 = .ok (.iload 5, 2) := by decide +kernel
theorem dL_law_936 : decode cL_law 936 = .ok (.ifCond .ne 15, 3) := by decide +kernel
theorem dL_law_939 : decode cL_law 939 = .ok (.aload_n 3, 1) := by decide +kernel
theorem dL_law_940 : decode cL_law 940 = .ok (.iconst 0, 1) := by decide +kernel
theorem dL_law_941 : decode cL_law 941 = .ok (.laload, 1) := by decide +kernel
theorem dL_law_942 : decode cL_law 942 = .ok (.iload 6, 2) := by decide +kernel
theorem dL_law_944 : decode cL_law 944 = .ok (.i2l, 1) := by decide +kernel
theorem dL_law_945 : decode cL_law 945 = .ok (.lcmp, 1) := by decide +kernel
theorem dL_law_946 : decode cL_law 946 = .ok (.ifCond .eq 5, 3) := by decide +kernel
theorem dL_law_949 : decode cL_law 949 = .ok (.iconst 0, 1) := by decide +kernel
theorem dL_law_950 : decode cL_law 950 = .ok (.ireturn, 1) := by decide +kernel
theorem dL_law_951 : decode cL_law 951 = .ok (.goto 463, 3) := by decide +kernel
theorem dL_law_954 : decode cL_law 954 = .ok (.aload_n 1, 1) := by decide +kernel
theorem dL_law_955 : decode cL_law 955 = .ok (.invokevirtual 154, 3) := by decide +kernel
theorem dL_law_958 : decode cL_law 958 = .ok (.aload_n 2, 1) := by decide +kernel
theorem dL_law_959 : decode cL_law 959 = .ok (.invokevirtual 158, 3) := by decide +kernel
theorem dL_law_962 : decode cL_law 962 = .ok (.lcmp, 1) := by decide +kernel
theorem dL_law_963 : decode cL_law 963 = .ok (.ifCond .eq 451, 3) := by decide +kernel
theorem dL_law_966 : decode cL_law 966 = .ok (.iconst 0, 1) := by decide +kernel
theorem dL_law_967 : decode cL_law 967 = .ok (.ireturn, 1) := by decide +kernel
theorem dL_law_968 : decode cL_law 968 = .ok (.aload_n 1, 1) := by decide +kernel
theorem dL_law_969 : decode cL_law 969 = .ok (.invokevirtual 159, 3) := by decide +kernel
theorem dL_law_972 : decode cL_law 972 = .ok (.dstore 5, 2) := by decide +kernel
theorem dL_law_974 : decode cL_law 974 = .ok (.aload_n 2, 1) := by decide +kernel
theorem dL_law_975 : decode cL_law 975 = .ok (.invokevirtual 163, 3) := by decide +kernel
theorem dL_law_978 : decode cL_law 978 = .ok (.dstore 7, 2) := by decide +kernel
theorem dL_law_980 : decode cL_law 980 = .ok (.dload 5, 2) := by decide +kernel
theorem dL_law_982 : decode cL_law 982 = .ok (.dload 7, 2) := by decide +kernel
theorem dL_law_984 : decode cL_law 984 = .ok (.dcmp .l, 1) := by decide +kernel
theorem dL_law_985 : decode cL_law 985 = .ok (.ifCond .eq 21, 3) := by decide +kernel
theorem dL_law_988 : decode cL_law 988 = .ok (.dload 5, 2) := by decide +kernel
theorem dL_law_990 : decode cL_law 990 = .ok (.dload 5, 2) := by decide +kernel
theorem dL_law_992 : decode cL_law 992 = .ok (.dcmp .l, 1) := by decide +kernel
theorem dL_law_993 : decode cL_law 993 = .ok (.ifCond .eq 11, 3) := by decide +kernel
theorem dL_law_996 : decode cL_law 996 = .ok (.dload 7, 2) := by decide +kernel
theorem dL_law_998 : decode cL_law 998 = .ok (.dload 7, 2) := by decide +kernel
theorem dL_law_1000 : decode cL_law 1000 = .ok (.dcmp .l, 1) := by decide +kernel
theorem dL_law_1001 : decode cL_law 1001 = .ok (.ifCond .ne 5, 3) := by decide +kernel
theorem dL_law_1004 : decode cL_law 1004 = .ok (.iconst 0, 1) := by decide +kernel
theorem dL_law_1005 : decode cL_law 1005 = .ok (.ireturn, 1) := by decide +kernel
theorem dL_law_1006 : decode cL_law 1006 = .ok (.goto 408, 3) := by decide +kernel
theorem dL_law_1009 : decode cL_law 1009 = .ok (.aload_n 1, 1) := by decide +kernel
theorem dL_law_1010 : decode cL_law 1010 = .ok (.invokevirtual 164, 3) := by decide +kernel
theorem dL_law_1013 : decode cL_law 1013 = .ok (.aload_n 2, 1) := by decide +kernel
theorem dL_law_1014 : decode cL_law 1014 = .ok (.invokevirtual 167, 3) := by decide +kernel
theorem dL_law_1017 : decode cL_law 1017 = .ok (.if_icmp .eq 397, 3) := by decide +kernel
theorem dL_law_1020 : decode cL_law 1020 = .ok (.iconst 0, 1) := by decide +kernel
theorem dL_law_1021 : decode cL_law 1021 = .ok (.ireturn, 1) := by decide +kernel
theorem dL_law_1022 : decode cL_law 1022 = .ok (.aload_n 1, 1) := by decide +kernel
theorem dL_law_1023 : decode cL_law 1023 = .ok (.aload_n 0, 1) := by decide +kernel
theorem dL_law_1024 : decode cL_law 1024 = .ok (.iload 4, 2) := by decide +kernel
theorem dL_law_1026 : decode cL_law 1026 = .ok (.iconst 1, 1) := by decide +kernel
theorem dL_law_1027 : decode cL_law 1027 = .ok (.iadd, 1) := by decide +kernel
theorem dL_law_1028 : decode cL_law 1028 = .ok (.iaload, 1) := by decide +kernel
theorem dL_law_1029 : decode cL_law 1029 = .ok (.aload_n 0, 1) := by decide +kernel
theorem dL_law_1030 : decode cL_law 1030 = .ok (.iload 4, 2) := by decide +kernel
theorem dL_law_1032 : decode cL_law 1032 = .ok (.iconst 2, 1) := by decide +kernel
theorem dL_law_1033 : decode cL_law 1033 = .ok (.iadd, 1) := by decide +kernel
theorem dL_law_1034 : decode cL_law 1034 = .ok (.iaload, 1) := by decide +kernel
theorem dL_law_1035 : decode cL_law 1035 = .ok (.aload_n 3, 1) := by decide +kernel
theorem dL_law_1036 : decode cL_law 1036 = .ok (.invokestatic 168, 3) := by decide +kernel
theorem dL_law_1039 : decode cL_law 1039 = .ok (.istore 5, 2) := by decide +kernel
theorem dL_law_1041 : decode cL_law 1041 = .ok (.aload_n 2, 1) := by decide +kernel
theorem dL_law_1042 : decode cL_law 1042 = .ok (.aload_n 0, 1) := by decide +kernel
theorem dL_law_1043 : decode cL_law 1043 = .ok (.iload 4, 2) := by decide +kernel
theorem dL_law_1045 : decode cL_law 1045 = .ok (.iconst 1, 1) := by decide +kernel
theorem dL_law_1046 : decode cL_law 1046 = .ok (.iadd, 1) := by decide +kernel
theorem dL_law_1047 : decode cL_law 1047 = .ok (.iaload, 1) := by decide +kernel
theorem dL_law_1048 : decode cL_law 1048 = .ok (.aload_n 0, 1) := by decide +kernel
theorem dL_law_1049 : decode cL_law 1049 = .ok (.iload 4, 2) := by decide +kernel
theorem dL_law_1051 : decode cL_law 1051 = .ok (.iconst 2, 1) := by decide +kernel
theorem dL_law_1052 : decode cL_law 1052 = .ok (.iadd, 1) := by decide +kernel
theorem dL_law_1053 : decode cL_law 1053 = .ok (.iaload, 1) := by decide +kernel
theorem dL_law_1054 : decode cL_law 1054 = .ok (.invokevirtual 171, 3) := by decide +kernel
theorem dL_law_1057 : decode cL_law 1057 = .ok (.istore 6, 2) := by decide +kernel
theorem dL_law_1059 : decode cL_law 1059 = .ok (.aload_n 2, 1) := by decide +kernel
theorem dL_law_1060 : decode cL_law 1060 = .ok (.invokevirtual 87, 3) := by decide +kernel
theorem dL_law_1063 : decode cL_law 1063 = .ok (.iload 5, 2) := by decide +kernel
theorem dL_law_1065 : decode cL_law 1065 = .ok (.if_icmp .eq 5, 3) := by decide +kernel
theorem dL_law_1068 : decode cL_law 1068 = .ok (.iconst 0, 1) := by decide +kernel
theorem dL_law_1069 : decode cL_law 1069 = .ok (.ireturn, 1) := by decide +kernel
theorem dL_law_1070 : decode cL_law 1070 = .ok (.iload 5, 2) := by decide +kernel
theorem dL_law_1072 : decode cL_law 1072 = .ok (.ifCond .ne 15, 3) := by decide +kernel
theorem dL_law_1075 : decode cL_law 1075 = .ok (.aload_n 3, 1) := by decide +kernel
theorem dL_law_1076 : decode cL_law 1076 = .ok (.iconst 0, 1) := by decide +kernel
theorem dL_law_1077 : decode cL_law 1077 = .ok (.laload, 1) := by decide +kernel
theorem dL_law_1078 : decode cL_law 1078 = .ok (.iload 6, 2) := by decide +kernel
theorem dL_law_1080 : decode cL_law 1080 = .ok (.i2l, 1) := by decide +kernel
theorem dL_law_1081 : decode cL_law 1081 = .ok (.lcmp, 1) := by decide +kernel
theorem dL_law_1082 : decode cL_law 1082 = .ok (.ifCond .eq 5, 3) := by decide +kernel
theorem dL_law_1085 : decode cL_law 1085 = .ok (.iconst 0, 1) := by decide +kernel
theorem dL_law_1086 : decode cL_law 1086 = .ok (.ireturn, 1) := by decide +kernel
theorem dL_law_1087 : decode cL_law 1087 = .ok (.goto 327, 3) := by decide +kernel
theorem dL_law_1090 : decode cL_law 1090 = .ok (.aload_n 1, 1) := by decide +kernel
theorem dL_law_1091 : decode cL_law 1091 = .ok (.aload_n 0, 1) := by decide +kernel
theorem dL_law_1092 : decode cL_law 1092 = .ok (.iload 4, 2) := by decide +kernel
theorem dL_law_1094 : decode cL_law 1094 = .ok (.iconst 1, 1) := by decide +kernel
theorem dL_law_1095 : decode cL_law 1095 = .ok (.iadd, 1) := by decide +kernel
theorem dL_law_1096 : decode cL_law 1096 = .ok (.iaload, 1) := by decide +kernel
theorem dL_law_1097 : decode cL_law 1097 = .ok (.aload_n 0, 1) := by decide +kernel
theorem dL_law_1098 : decode cL_law 1098 = .ok (.iload 4, 2) := by decide +kernel
theorem dL_law_1100 : decode cL_law 1100 = .ok (.iconst 2, 1) := by decide +kernel
theorem dL_law_1101 : decode cL_law 1101 = .ok (.iadd, 1) := by decide +kernel
theorem dL_law_1102 : decode cL_law 1102 = .ok (.iaload, 1) := by decide +kernel
theorem dL_law_1103 : decode cL_law 1103 = .ok (.aload_n 0, 1) := by decide +kernel
theorem dL_law_1104 : decode cL_law 1104 = .ok (.iload 4, 2) := by decide +kernel
theorem dL_law_1106 : decode cL_law 1106 = .ok (.iconst 3, 1) := by decide +kernel
theorem dL_law_1107 : decode cL_law 1107 = .ok (.iadd, 1) := by decide +kernel
theorem dL_law_1108 : decode cL_law 1108 = .ok (.iaload, 1) := by decide +kernel
theorem dL_law_1109 : decode cL_law 1109 = .ok (.aload_n 0, 1) := by decide +kernel
theorem dL_law_1110 : decode cL_law 1110 = .ok (.iload 4, 2) := by decide +kernel
theorem dL_law_1112 : decode cL_law 1112 = .ok (.iconst 4, 1) := by decide +kernel
theorem dL_law_1113 : decode cL_law 1113 = .ok (.iadd, 1) := by decide +kernel
theorem dL_law_1114 : decode cL_law 1114 = .ok (.iaload, 1) := by decide +kernel
theorem dL_law_1115 : decode cL_law 1115 = .ok (.aload_n 3, 1) := by decide +kernel
theorem dL_law_1116 : decode cL_law 1116 = .ok (.invokestatic 172, 3) := by decide +kernel
theorem dL_law_1119 : decode cL_law 1119 = .ok (.istore 5, 2) := by decide +kernel
theorem dL_law_1121 : decode cL_law 1121 = .ok (.aload_n 2, 1) := by decide +kernel
theorem dL_law_1122 : decode cL_law 1122 = .ok (.aload_n 0, 1) := by decide +kernel
theorem dL_law_1123 : decode cL_law 1123 = .ok (.iload 4, 2) := by decide +kernel
theorem dL_law_1125 : decode cL_law 1125 = .ok (.iconst 1, 1) := by decide +kernel
theorem dL_law_1126 : decode cL_law 1126 = .ok (.iadd, 1) := by decide +kernel
theorem dL_law_1127 : decode cL_law 1127 = .ok (.iaload, 1) := by decide +kernel
theorem dL_law_1128 : decode cL_law 1128 = .ok (.aload_n 0, 1) := by decide +kernel
theorem dL_law_1129 : decode cL_law 1129 = .ok (.iload 4, 2) := by decide +kernel
theorem dL_law_1131 : decode cL_law 1131 = .ok (.iconst 2, 1) := by decide +kernel
theorem dL_law_1132 : decode cL_law 1132 = .ok (.iadd, 1) := by decide +kernel
theorem dL_law_1133 : decode cL_law 1133 = .ok (.iaload, 1) := by decide +kernel
theorem dL_law_1134 : decode cL_law 1134 = .ok (.aload_n 0, 1) := by decide +kernel
theorem dL_law_1135 : decode cL_law 1135 = .ok (.iload 4, 2) := by decide +kernel
theorem dL_law_1137 : decode cL_law 1137 = .ok (.iconst 3, 1) := by decide +kernel
theorem dL_law_1138 : decode cL_law 1138 = .ok (.iadd, 1) := by decide +kernel
theorem dL_law_1139 : decode cL_law 1139 = .ok (.iaload, 1) := by decide +kernel
theorem dL_law_1140 : decode cL_law 1140 = .ok (.aload_n 0, 1) := by decide +kernel
theorem dL_law_1141 : decode cL_law 1141 = .ok (.iload 4, 2) := by decide +kernel
theorem dL_law_1143 : decode cL_law 1143 = .ok (.iconst 4, 1) := by decide +kernel
theorem dL_law_1144 : decode cL_law 1144 = .ok (.iadd, 1) := by decide +kernel
theorem dL_law_1145 : decode cL_law 1145 = .ok (.iaload, 1) := by decide +kernel
theorem dL_law_1146 : decode cL_law 1146 = .ok (.invokevirtual 175, 3) := by decide +kernel
theorem dL_law_1149 : decode cL_law 1149 = .ok (.istore 6, 2) := by decide +kernel
theorem dL_law_1151 : decode cL_law 1151 = .ok (.aload_n 2, 1) := by decide +kernel
theorem dL_law_1152 : decode cL_law 1152 = .ok (.invokevirtual 87, 3) := by decide +kernel
theorem dL_law_1155 : decode cL_law 1155 = .ok (.iload 5, 2) := by decide +kernel
theorem dL_law_1157 : decode cL_law 1157 = .ok (.if_icmp .eq 5, 3) := by decide +kernel
theorem dL_law_1160 : decode cL_law 1160 = .ok (.iconst 0, 1) := by decide +kernel
theorem dL_law_1161 : decode cL_law 1161 = .ok (.ireturn, 1) := by decide +kernel
theorem dL_law_1162 : decode cL_law 1162 = .ok (.iload 5, 2) := by decide +kernel
theorem dL_law_1164 : decode cL_law 1164 = .ok (.ifCond .ne 15, 3) := by decide +kernel
theorem dL_law_1167 : decode cL_law 1167 = .ok (.aload_n 3, 1) := by decide +kernel
theorem dL_law_1168 : decode cL_law 1168 = .ok (.iconst 0, 1) := by decide +kernel
theorem dL_law_1169 : decode cL_law 1169 = .ok (.laload, 1) := by decide +kernel
theorem dL_law_1170 : decode cL_law 1170 = .ok (.iload 6, 2) := by decide +kernel
theorem dL_law_1172 : decode cL_law 1172 = .ok (.i2l, 1) := by decide +kernel
theorem dL_law_1173 : decode cL_law 1173 = .ok (.lcmp, 1) := by decide +kernel
theorem dL_law_1174 : decode cL_law 1174 = .ok (.ifCond .eq 5, 3) := by decide +kernel
theorem dL_law_1177 : decode cL_law 1177 = .ok (.iconst 0, 1) := by decide +kernel
theorem dL_law_1178 : decode cL_law 1178 = .ok (.ireturn, 1) := by decide +kernel
theorem dL_law_1179 : decode cL_law 1179 = .ok (.goto 235, 3) := by decide +kernel
theorem dL_law_1182 : decode cL_law 1182 = .ok (.aload_n 1, 1) := by decide +kernel
theorem dL_law_1183 : decode cL_law 1183 = .ok (.aload_n 0, 1) := by decide +kernel
theorem dL_law_1184 : decode cL_law 1184 = .ok (.iload 4, 2) := by decide +kernel
theorem dL_law_1186 : decode cL_law 1186 = .ok (.iconst 1, 1) := by decide +kernel
theorem dL_law_1187 : decode cL_law 1187 = .ok (.iadd, 1) := by decide +kernel
theorem dL_law_1188 : decode cL_law 1188 = .ok (.iaload, 1) := by decide +kernel
theorem dL_law_1189 : decode cL_law 1189 = .ok (.aload_n 0, 1) := by decide +kernel
theorem dL_law_1190 : decode cL_law 1190 = .ok (.iload 4, 2) := by decide +kernel
theorem dL_law_1192 : decode cL_law 1192 = .ok (.iconst 2, 1) := by decide +kernel
theorem dL_law_1193 : decode cL_law 1193 = .ok (.iadd, 1) := by decide +kernel
theorem dL_law_1194 : decode cL_law 1194 = .ok (.iaload, 1) := by decide +kernel
theorem dL_law_1195 : decode cL_law 1195 = .ok (.aload_n 0, 1) := by decide +kernel
theorem dL_law_1196 : decode cL_law 1196 = .ok (.iload 4, 2) := by decide +kernel
theorem dL_law_1198 : decode cL_law 1198 = .ok (.iconst 3, 1) := by decide +kernel
theorem dL_law_1199 : decode cL_law 1199 = .ok (.iadd, 1) := by decide +kernel
theorem dL_law_1200 : decode cL_law 1200 = .ok (.iaload, 1) := by decide +kernel
theorem dL_law_1201 : decode cL_law 1201 = .ok (.aload_n 0, 1) := by decide +kernel
theorem dL_law_1202 : decode cL_law 1202 = .ok (.iload 4, 2) := by decide +kernel
theorem dL_law_1204 : decode cL_law 1204 = .ok (.iconst 4, 1) := by decide +kernel
theorem dL_law_1205 : decode cL_law 1205 = .ok (.iadd, 1) := by decide +kernel
theorem dL_law_1206 : decode cL_law 1206 = .ok (.iaload, 1) := by decide +kernel
theorem dL_law_1207 : decode cL_law 1207 = .ok (.aload_n 3, 1) := by decide +kernel
theorem dL_law_1208 : decode cL_law 1208 = .ok (.invokestatic 176, 3) := by decide +kernel
theorem dL_law_1211 : decode cL_law 1211 = .ok (.istore 5, 2) := by decide +kernel
theorem dL_law_1213 : decode cL_law 1213 = .ok (.aload_n 2, 1) := by decide +kernel
theorem dL_law_1214 : decode cL_law 1214 = .ok (.aload_n 0, 1) := by decide +kernel
theorem dL_law_1215 : decode cL_law 1215 = .ok (.iload 4, 2) := by decide +kernel
theorem dL_law_1217 : decode cL_law 1217 = .ok (.iconst 1, 1) := by decide +kernel
theorem dL_law_1218 : decode cL_law 1218 = .ok (.iadd, 1) := by decide +kernel
theorem dL_law_1219 : decode cL_law 1219 = .ok (.iaload, 1) := by decide +kernel
theorem dL_law_1220 : decode cL_law 1220 = .ok (.aload_n 0, 1) := by decide +kernel
theorem dL_law_1221 : decode cL_law 1221 = .ok (.iload 4, 2) := by decide +kernel
theorem dL_law_1223 : decode cL_law 1223 = .ok (.iconst 2, 1) := by decide +kernel
theorem dL_law_1224 : decode cL_law 1224 = .ok (.iadd, 1) := by decide +kernel
theorem dL_law_1225 : decode cL_law 1225 = .ok (.iaload, 1) := by decide +kernel
theorem dL_law_1226 : decode cL_law 1226 = .ok (.aload_n 0, 1) := by decide +kernel
theorem dL_law_1227 : decode cL_law 1227 = .ok (.iload 4, 2) := by decide +kernel
theorem dL_law_1229 : decode cL_law 1229 = .ok (.iconst 3, 1) := by decide +kernel
theorem dL_law_1230 : decode cL_law 1230 = .ok (.iadd, 1) := by decide +kernel
theorem dL_law_1231 : decode cL_law 1231 = .ok (.iaload, 1) := by decide +kernel
theorem dL_law_1232 : decode cL_law 1232 = .ok (.aload_n 0, 1) := by decide +kernel
theorem dL_law_1233 : decode cL_law 1233 = .ok (.iload 4, 2) := by decide +kernel
theorem dL_law_1235 : decode cL_law 1235 = .ok (.iconst 4, 1) := by decide +kernel
theorem dL_law_1236 : decode cL_law 1236 = .ok (.iadd, 1) := by decide +kernel
theorem dL_law_1237 : decode cL_law 1237 = .ok (.iaload, 1) := by decide +kernel
theorem dL_law_1238 : decode cL_law 1238 = .ok (.invokevirtual 178, 3) := by decide +kernel
theorem dL_law_1241 : decode cL_law 1241 = .ok (.istore 6, 2) := by decide +kernel
theorem dL_law_1243 : decode cL_law 1243 = .ok (.aload_n 2, 1) := by decide +kernel
theorem dL_law_1244 : decode cL_law 1244 = .ok (.invokevirtual 87, 3) := by decide +kernel
theorem dL_law_1247 : decode cL_law 1247 = .ok (.iload 5, 2) := by decide +kernel
theorem dL_law_1249 : decode cL_law 1249 = .ok (.if_icmp .eq 5, 3) := by decide +kernel
theorem dL_law_1252 : decode cL_law 1252 = .ok (.iconst 0, 1) := by decide +kernel
theorem dL_law_1253 : decode cL_law 1253 = .ok (.ireturn, 1) := by decide +kernel
theorem dL_law_1254 : decode cL_law 1254 = .ok (.iload 5, 2) := by decide +kernel
theorem dL_law_1256 : decode cL_law 1256 = .ok (.ifCond .ne 15, 3) := by decide +kernel
theorem dL_law_1259 : decode cL_law 1259 = .ok (.aload_n 3, 1) := by decide +kernel
theorem dL_law_1260 : decode cL_law 1260 = .ok (.iconst 0, 1) := by decide +kernel
theorem dL_law_1261 : decode cL_law 1261 = .ok (.laload, 1) := by decide +kernel
theorem dL_law_1262 : decode cL_law 1262 = .ok (.iload 6, 2) := by decide +kernel
theorem dL_law_1264 : decode cL_law 1264 = .ok (.i2l, 1) := by decide +kernel
theorem dL_law_1265 : decode cL_law 1265 = .ok (.lcmp, 1) := by decide +kernel
theorem dL_law_1266 : decode cL_law 1266 = .ok (.ifCond .eq 5, 3) := by decide +kernel
theorem dL_law_1269 : decode cL_law 1269 = .ok (.iconst 0, 1) := by decide +kernel
theorem dL_law_1270 : decode cL_law 1270 = .ok (.ireturn, 1) := by decide +kernel
theorem dL_law_1271 : decode cL_law 1271 = .ok (.goto 143, 3) := by decide +kernel
theorem dL_law_1274 : decode cL_law 1274 = .ok (.aload_n 1, 1) := by decide +kernel
theorem dL_law_1275 : decode cL_law 1275 = .ok (.aload_n 0, 1) := by decide +kernel
theorem dL_law_1276 : decode cL_law 1276 = .ok (.iload 4, 2) := by decide +kernel
theorem dL_law_1278 : decode cL_law 1278 = .ok (.iconst 1, 1) := by decide +kernel
theorem dL_law_1279 : decode cL_law 1279 = .ok (.iadd, 1) := by decide +kernel
theorem dL_law_1280 : decode cL_law 1280 = .ok (.iaload, 1) := by decide +kernel
theorem dL_law_1281 : decode cL_law 1281 = .ok (.aload_n 0, 1) := by decide +kernel
theorem dL_law_1282 : decode cL_law 1282 = .ok (.iload 4, 2) := by decide +kernel
theorem dL_law_1284 : decode cL_law 1284 = .ok (.iconst 2, 1) := by decide +kernel
theorem dL_law_1285 : decode cL_law 1285 = .ok (.iadd, 1) := by decide +kernel
theorem dL_law_1286 : decode cL_law 1286 = .ok (.iaload, 1) := by decide +kernel
theorem dL_law_1287 : decode cL_law 1287 = .ok (.aload_n 3, 1) := by decide +kernel
theorem dL_law_1288 : decode cL_law 1288 = .ok (.invokestatic 179, 3) := by decide +kernel
theorem dL_law_1291 : decode cL_law 1291 = .ok (.istore 5, 2) := by decide +kernel
theorem dL_law_1293 : decode cL_law 1293 = .ok (.aload_n 2, 1) := by decide +kernel
theorem dL_law_1294 : decode cL_law 1294 = .ok (.aload_n 0, 1) := by decide +kernel
theorem dL_law_1295 : decode cL_law 1295 = .ok (.iload 4, 2) := by decide +kernel
theorem dL_law_1297 : decode cL_law 1297 = .ok (.iconst 1, 1) := by decide +kernel
theorem dL_law_1298 : decode cL_law 1298 = .ok (.iadd, 1) := by decide +kernel
theorem dL_law_1299 : decode cL_law 1299 = .ok (.iaload, 1) := by decide +kernel
theorem dL_law_1300 : decode cL_law 1300 = .ok (.aload_n 0, 1) := by decide +kernel
theorem dL_law_1301 : decode cL_law 1301 = .ok (.iload 4, 2) := by decide +kernel
theorem dL_law_1303 : decode cL_law 1303 = .ok (.iconst 2, 1) := by decide +kernel
theorem dL_law_1304 : decode cL_law 1304 = .ok (.iadd, 1) := by decide +kernel
theorem dL_law_1305 : decode cL_law 1305 = .ok (.iaload, 1) := by decide +kernel
theorem dL_law_1306 : decode cL_law 1306 = .ok (.invokevirtual 181, 3) := by decide +kernel
theorem dL_law_1309 : decode cL_law 1309 = .ok (.istore 6, 2) := by decide +kernel
theorem dL_law_1311 : decode cL_law 1311 = .ok (.aload_n 2, 1) := by decide +kernel
theorem dL_law_1312 : decode cL_law 1312 = .ok (.invokevirtual 87, 3) := by decide +kernel
theorem dL_law_1315 : decode cL_law 1315 = .ok (.iload 5, 2) := by decide +kernel
theorem dL_law_1317 : decode cL_law 1317 = .ok (.if_icmp .eq 5, 3) := by decide +kernel
theorem dL_law_1320 : decode cL_law 1320 = .ok (.iconst 0, 1) := by decide +kernel
theorem dL_law_1321 : decode cL_law 1321 = .ok (.ireturn, 1) := by decide +kernel
theorem dL_law_1322 : decode cL_law 1322 = .ok (.iload 5, 2) := by decide +kernel
theorem dL_law_1324 : decode cL_law 1324 = .ok (.ifCond .ne 15, 3) := by decide +kernel
theorem dL_law_1327 : decode cL_law 1327 = .ok (.aload_n 3, 1) := by decide +kernel
theorem dL_law_1328 : decode cL_law 1328 = .ok (.iconst 0, 1) := by decide +kernel
theorem dL_law_1329 : decode cL_law 1329 = .ok (.laload, 1) := by decide +kernel
theorem dL_law_1330 : decode cL_law 1330 = .ok (.iload 6, 2) := by decide +kernel
theorem dL_law_1332 : decode cL_law 1332 = .ok (.i2l, 1) := by decide +kernel
theorem dL_law_1333 : decode cL_law 1333 = .ok (.lcmp, 1) := by decide +kernel
theorem dL_law_1334 : decode cL_law 1334 = .ok (.ifCond .eq 5, 3) := by decide +kernel
theorem dL_law_1337 : decode cL_law 1337 = .ok (.iconst 0, 1) := by decide +kernel
theorem dL_law_1338 : decode cL_law 1338 = .ok (.ireturn, 1) := by decide +kernel
theorem dL_law_1339 : decode cL_law 1339 = .ok (.goto 75, 3) := by decide +kernel
theorem dL_law_1342 : decode cL_law 1342 = .ok (.aload_n 1, 1) := by decide +kernel
theorem dL_law_1343 : decode cL_law 1343 = .ok (.aload_n 0, 1) := by decide +kernel
theorem dL_law_1344 : decode cL_law 1344 = .ok (.iload 4, 2) := by decide +kernel
theorem dL_law_1346 : decode cL_law 1346 = .ok (.iconst 1, 1) := by decide +kernel
theorem dL_law_1347 : decode cL_law 1347 = .ok (.iadd, 1) := by decide +kernel
theorem dL_law_1348 : decode cL_law 1348 = .ok (.iaload, 1) := by decide +kernel
theorem dL_law_1349 : decode cL_law 1349 = .ok (.invokestatic 182, 3) := by decide +kernel
theorem dL_law_1352 : decode cL_law 1352 = .ok (.istore 5, 2) := by decide +kernel
theorem dL_law_1354 : decode cL_law 1354 = .ok (.aload_n 2, 1) := by decide +kernel
theorem dL_law_1355 : decode cL_law 1355 = .ok (.aload_n 0, 1) := by decide +kernel
theorem dL_law_1356 : decode cL_law 1356 = .ok (.iload 4, 2) := by decide +kernel
theorem dL_law_1358 : decode cL_law 1358 = .ok (.iconst 1, 1) := by decide +kernel
theorem dL_law_1359 : decode cL_law 1359 = .ok (.iadd, 1) := by decide +kernel
theorem dL_law_1360 : decode cL_law 1360 = .ok (.iaload, 1) := by decide +kernel
theorem dL_law_1361 : decode cL_law 1361 = .ok (.invokevirtual 185, 3) := by decide +kernel
theorem dL_law_1364 : decode cL_law 1364 = .ok (.aload_n 2, 1) := by decide +kernel
theorem dL_law_1365 : decode cL_law 1365 = .ok (.invokevirtual 87, 3) := by decide +kernel
theorem dL_law_1368 : decode cL_law 1368 = .ok (.iload 5, 2) := by decide +kernel
theorem dL_law_1370 : decode cL_law 1370 = .ok (.if_icmp .eq 5, 3) := by decide +kernel
theorem dL_law_1373 : decode cL_law 1373 = .ok (.iconst 0, 1) := by decide +kernel
theorem dL_law_1374 : decode cL_law 1374 = .ok (.ireturn, 1) := by decide +kernel
theorem dL_law_1375 : decode cL_law 1375 = .ok (.goto 39, 3) := by decide +kernel
theorem dL_law_1378 : decode cL_law 1378 = .ok (.aload_n 1, 1) := by decide +kernel
theorem dL_law_1379 : decode cL_law 1379 = .ok (.aload_n 0, 1) := by decide +kernel
theorem dL_law_1380 : decode cL_law 1380 = .ok (.iload 4, 2) := by decide +kernel
theorem dL_law_1382 : decode cL_law 1382 = .ok (.iconst 1, 1) := by decide +kernel
theorem dL_law_1383 : decode cL_law 1383 = .ok (.iadd, 1) := by decide +kernel
theorem dL_law_1384 : decode cL_law 1384 = .ok (.iaload, 1) := by decide +kernel
theorem dL_law_1385 : decode cL_law 1385 = .ok (.invokestatic 186, 3) := by decide +kernel
theorem dL_law_1388 : decode cL_law 1388 = .ok (.istore 5, 2) := by decide +kernel
theorem dL_law_1390 : decode cL_law 1390 = .ok (.aload_n 2, 1) := by decide +kernel
theorem dL_law_1391 : decode cL_law 1391 = .ok (.aload_n 0, 1) := by decide +kernel
theorem dL_law_1392 : decode cL_law 1392 = .ok (.iload 4, 2) := by decide +kernel
theorem dL_law_1394 : decode cL_law 1394 = .ok (.iconst 1, 1) := by decide +kernel
theorem dL_law_1395 : decode cL_law 1395 = .ok (.iadd, 1) := by decide +kernel
theorem dL_law_1396 : decode cL_law 1396 = .ok (.iaload, 1) := by decide +kernel
theorem dL_law_1397 : decode cL_law 1397 = .ok (.invokevirtual 188, 3) := by decide +kernel
theorem dL_law_1400 : decode cL_law 1400 = .ok (.aload_n 2, 1) := by decide +kernel
theorem dL_law_1401 : decode cL_law 1401 = .ok (.invokevirtual 87, 3) := by decide +kernel
theorem dL_law_1404 : decode cL_law 1404 = .ok (.iload 5, 2) := by decide +kernel
theorem dL_law_1406 : decode cL_law 1406 = .ok (.if_icmp .eq 5, 3) := by decide +kernel
theorem dL_law_1409 : decode cL_law 1409 = .ok (.iconst 0, 1) := by decide +kernel
theorem dL_law_1410 : decode cL_law 1410 = .ok (.ireturn, 1) := by decide +kernel
theorem dL_law_1411 : decode cL_law 1411 = .ok (.goto 3, 3) := by decide +kernel
theorem dL_law_1414 : decode cL_law 1414 = .ok (.iinc 4 5, 3) := by decide +kernel
theorem dL_law_1417 : decode cL_law 1417 = .ok (.goto (-1394), 3) := by decide +kernel
theorem dL_law_1420 : decode cL_law 1420 = .ok (.iconst 1, 1) := by decide +kernel
theorem dL_law_1421 : decode cL_law 1421 = .ok (.ireturn, 1) := by decide +kernel
abbrev vwCl : List vw_C := [(RX0, TX0, 14), (RX1, TX1, 9), (RX2, TX2, 3), (RX3, TX3, 9), (RX4, TX4, 5), (RX5, TX5, 6), (RX6, TX6, 3), (RX7, TX7, 7)]
end
section
section BASE
/-- the links between nest mates, all of them -/
def NW (U : State) : Prop :=
  va_Nw (.methodLinkNest RX6 9 yX5_init RX6) U ∧ va_Nw (.methodLinkNest RX5 17 yX1_init RX6) U ∧ va_Nw (.methodLinkNest RX5 31 yX0_init RX6) U ∧ va_Nw (.methodLinkNest RX5 38 yX4_init RX6) U ∧ va_Nw (.methodLinkNest RX5 45 yX2_init RX6) U ∧
  va_Nw (.methodLinkNest RX4 28 yX6_outside RX6) U ∧ va_Nw (.methodLinkNest RX1 58 yX6_limitedFrequency RX6) U ∧ va_Nw (.methodLinkNest RX3 49 yX6_limitedFrequency RX6) U ∧ va_Nw (.methodLinkNest RX3 53 yX6_outside RX6) U ∧ va_Nw (.methodLinkNest RX0 58 yX6_outside RX6) U ∧
  va_Nw (.methodLinkNest RX3 57 yX6_copyRow RX6) U ∧ va_Nw (.methodLinkNest RX4 36 yX6_copyRow RX6) U ∧ va_Nw (.methodLinkNest RX2 32 yX6_copyRow RX6) U
theorem NW.warm {s U : State} (hW : s.WarmedH U.vm) (h : NW s) : NW U := by
  obtain ⟨h1, h2, h3, h4, h5, h6, h7, h8, h9, h10, h11, h12, h13⟩ := h
  exact ⟨va_Nw.warmM hW h1, va_Nw.warmM hW h2, va_Nw.warmM hW h3, va_Nw.warmM hW h4, va_Nw.warmM hW h5, va_Nw.warmM hW h6, va_Nw.warmM hW h7, va_Nw.warmM hW h8, va_Nw.warmM hW h9, va_Nw.warmM hW h10, va_Nw.warmM hW h11, va_Nw.warmM hW h12, va_Nw.warmM hW h13⟩
theorem NW.same {u U : State} (h : u.vm = U.vm) (hZ : NW u) : NW U := by
  obtain ⟨h1, h2, h3, h4, h5, h6, h7, h8, h9, h10, h11, h12, h13⟩ := hZ
  exact ⟨va_Nw.same rfl h h1, va_Nw.same rfl h h2, va_Nw.same rfl h h3, va_Nw.same rfl h h4, va_Nw.same rfl h h5, va_Nw.same rfl h h6, va_Nw.same rfl h h7, va_Nw.same rfl h h8, va_Nw.same rfl h h9, va_Nw.same rfl h h10, va_Nw.same rfl h h11, va_Nw.same rfl h h12, va_Nw.same rfl h h13⟩
/-- the array classes: int, long, boolean, Simulation -/
abbrev tysK (cI cJ cZ cO : ClassId) : List (ClassId × FieldType) := [(cI, .int), (cJ, .long), (cZ, .boolean), (cO, .object RX5)]
/-- a method's start and end, over the world w of which nothing else is known -/
def cS (D : va_G) (tys : List (ClassId × FieldType)) (sz : Nat) (w : va_W) (U : State) : Prop :=
  U.heap.size = sz ∧ va_P D vwCl w U.heap ∧ va_K D vwCl tys U ∧ va_D (fun _ => True) w ∧ NW U
def cE (D : va_G) (A : Nat → Prop) (w' : va_W) (t : State) : Prop := va_P D vwCl w' t.heap ∧ va_D A w'
theorem cS_blind {D : va_G} {tys : List (ClassId × FieldType)} {sz : Nat} {w : va_W} {av : List Value} : FrameBlind (va_Pc av (cS D tys sz w)) := fun a U g mk q => by
  obtain ⟨q0, q1, qP, qK, qD, qN⟩ := q
  exact ⟨q0, q1, qP, va_K.moved (u := U) (U := U.calling g mk a) (Vm.Alike.refl U.vm) qK, qD, NW.same rfl qN⟩
def MI (l : Launch) (y : MethodName) (ws : List Cond) (rm : Room) (D : va_G) (tys : List (ClassId × FieldType)) (av : List Value) (w : va_W) (r : Int32) (w' : va_W) : Prop :=
  ∀ sz : Nat, Met l y ws rm (va_Pc av (cS D tys sz w)) (va_Qi (fun x (_ : Unit) => x = r) (fun _ t => cE D (va_A w sz) w' t) (va_A w sz)) rm.cells rm.slots (va_A w sz)
def ML (l : Launch) (y : MethodName) (ws : List Cond) (rm : Room) (D : va_G) (tys : List (ClassId × FieldType)) (av : List Value) (w : va_W) (r : Int64) (w' : va_W) : Prop :=
  ∀ sz : Nat, Met l y ws rm (va_Pc av (cS D tys sz w)) (va_Ql (fun x (_ : Unit) => x = r) (fun _ t => cE D (va_A w sz) w' t) (va_A w sz)) rm.cells rm.slots (va_A w sz)
/-- S: what is chosen (the new cells' addresses) -/
def MV {S : Type} (l : Launch) (y : MethodName) (ws : List Cond) (rm : Room) (D : va_G) (tys : List (ClassId × FieldType)) (av : List Value) (w : va_W) (w' : S → va_W) : Prop :=
  ∀ sz : Nat, Met l y ws rm (va_Pc av (cS D tys sz w)) (va_Qv (fun (_ : S) => True) (fun u t => cE D (va_A w sz) (w' u) t) (va_A w sz)) rm.cells rm.slots (va_A w sz)
/-- what a walk begins with -/
def Bg (p : Program) (s : State) (m : MethodId) (args : Array Value) (meth : Method) (c : Code) (cc : ByteArray) (own : String) (ws : List Cond) (D : va_G) (tys : List (ClassId × FieldType)) (maxL : Nat) (A : Nat → Prop) : Prop :=
  p.tables.exec = Jvm.exec ∧ c.code = cc ∧ c.maxLocals = maxL ∧ s.vm.findClass own = some m.cls ∧ (∀ w ∈ ws, w.before args s = true) ∧ va_K D vwCl tys s ∧ NW s ∧ (∀ q : Nat, s.heap.size ≤ q → A q) ∧ meth.locks = false
section
variable {l : Launch} {y : MethodName} {ws ws' : List Cond} {rm : Room} {D : va_G} {tys : List (ClassId × FieldType)} {av : List Value} {w w' : va_W} {cc : ByteArray} {maxL : Nat}
theorem entry_ls (hn : (lg_sl av).length ≤ maxL) {m : MethodId} {P : JFrame → Prop} (k : ∀ ls : Array Slot, lv_has ls maxL (lv_args 0 av) → P (F0 m 0 ls [])) : P (entryFrame m av.toArray maxL) := by
  rw [lg_entry_eq]
  exact k _ (lv_entry av hn)
theorem MI.of {r : Int32} {ret : FieldType} (hy : plainName y.cls = true) (hw : ws = Cond.code y cc maxL (some ret) :: ws') (hn : (lg_sl av).length ≤ maxL) (hnar : narrow ret (.int r) = .int r)
    (body : ∀ (p : Program) (e : Env) (s : State) (m : MethodId) (args : Array Value) (below : List Frame) (meth : Method) (c : Code) (A : Nat → Prop) (Q : State → Prop) (ls : Array Slot) (H : Heap) (locs : List Loc),
      Bg p s m args meth c cc y.cls ws D tys maxL A → va_S A s.heap H locs → va_P D vwCl w H → va_D A w → lv_has ls maxL (lv_args 0 av) →
      (∀ (v : Int32) (H : Heap) (locs : List Loc) (cells slots pc : Nat) (ls : Array Slot) (wf : va_W), v = r → wf = w' → va_P D vwCl wf H → va_D A wf → va_S A s.heap H locs → cells ≤ rm.cells → slots ≤ rm.slots → decode cc pc = .ok (.ireturn, 1) →
        W p l e rm s m args below meth c H locs cells slots Q (F0 m pc ls [.int v])) →
      W p l e rm s m args below meth c H locs 0 0 Q (F0 m 0 ls [])) : MI l y ws rm D tys av w r w' := by
  intro sz
  refine Met.ofW (cc := cc) (maxL := maxL) (ret := some ret) hy hw ?_
  intro p e s m args below meth c s₁ B hml hv
  obtain ⟨rfl, hsz, hP, hK, hD0, hN⟩ := hv
  subst hsz
  refine entry_ls hn (P := fun g => W p l e rm s m av.toArray below meth c s.heap [] 0 0 _ g) (fun ls hl => ?_)
  refine body p e s m _ below meth c (va_A w s.heap.size) _ ls s.heap [] ⟨B.exec, B.bytes, hml, findClass_of_methodNamed B.named, atoms_spec (ws := ws) B.pre, hK, hN, fun q h => Or.inr h, B.notSynchronized⟩ va_S.rf hP hD0.self hl ?_
  intro v H locs cells slots pc ls wf hv hwf hP hD hS hc hs hdg
  subst hv; subst hwf
  refine W.widen hc hs ?_
  exact W.zret (ty := ret) (v := v) B.exec B.bytes B.returns hnar (fun t ht hW => ⟨⟨v, (), rfl, rfl, by rw [ht]; exact hP, hD⟩, hS.F ht⟩) hS.2.2 hdg B.notSynchronized
theorem ML.of {r : Int64} (hy : plainName y.cls = true) (hw : ws = Cond.code y cc maxL (some .long) :: ws') (hn : (lg_sl av).length ≤ maxL)
    (body : ∀ (p : Program) (e : Env) (s : State) (m : MethodId) (args : Array Value) (below : List Frame) (meth : Method) (c : Code) (A : Nat → Prop) (Q : State → Prop) (ls : Array Slot) (H : Heap) (locs : List Loc),
      Bg p s m args meth c cc y.cls ws D tys maxL A → va_S A s.heap H locs → va_P D vwCl w H → va_D A w → lv_has ls maxL (lv_args 0 av) →
      (∀ (v : Int64) (H : Heap) (locs : List Loc) (cells slots pc : Nat) (ls : Array Slot) (wf : va_W), v = r → wf = w' → va_P D vwCl wf H → va_D A wf → va_S A s.heap H locs → cells ≤ rm.cells → slots ≤ rm.slots → decode cc pc = .ok (.lreturn, 1) →
        W p l e rm s m args below meth c H locs cells slots Q (F0 m pc ls [.long v])) →
      W p l e rm s m args below meth c H locs 0 0 Q (F0 m 0 ls [])) : ML l y ws rm D tys av w r w' := by
  intro sz
  refine Met.ofW (cc := cc) (maxL := maxL) (ret := some .long) hy hw ?_
  intro p e s m args below meth c s₁ B hml hv
  obtain ⟨rfl, hsz, hP, hK, hD0, hN⟩ := hv
  subst hsz
  refine entry_ls hn (P := fun g => W p l e rm s m av.toArray below meth c s.heap [] 0 0 _ g) (fun ls hl => ?_)
  refine body p e s m _ below meth c (va_A w s.heap.size) _ ls s.heap [] ⟨B.exec, B.bytes, hml, findClass_of_methodNamed B.named, atoms_spec (ws := ws) B.pre, hK, hN, fun q h => Or.inr h, B.notSynchronized⟩ va_S.rf hP hD0.self hl ?_
  intro v H locs cells slots pc ls wf hv hwf hP hD hS hc hs hdg
  subst hv; subst hwf
  refine W.widen hc hs ?_
  exact W.lret (v := v) B.exec B.bytes B.returns (fun t ht hW => ⟨⟨v, (), rfl, rfl, by rw [ht]; exact hP, hD⟩, hS.F ht⟩) hS.2.2 hdg B.notSynchronized
theorem MV.of {S : Type} {w' : S → va_W} (hy : plainName y.cls = true) (hw : ws = Cond.code y cc maxL none :: ws') (hn : (lg_sl av).length ≤ maxL)
    (body : ∀ (p : Program) (e : Env) (s : State) (m : MethodId) (args : Array Value) (below : List Frame) (meth : Method) (c : Code) (A : Nat → Prop) (Q : State → Prop) (ls : Array Slot) (H : Heap) (locs : List Loc),
      Bg p s m args meth c cc y.cls ws D tys maxL A → meth.name = y.name → va_S A s.heap H locs → va_P D vwCl w H → va_D A w → lv_has ls maxL (lv_args 0 av) →
      (∀ (u : S) (H : Heap) (locs : List Loc) (cells slots pc : Nat) (ls : Array Slot) (wf : va_W), wf = w' u → va_P D vwCl wf H → va_D A wf → va_S A s.heap H locs → cells ≤ rm.cells → slots ≤ rm.slots → decode cc pc = .ok (.return_, 1) →
        W p l e rm s m args below meth c H locs cells slots Q (F0 m pc ls [])) →
      W p l e rm s m args below meth c H locs 0 0 Q (F0 m 0 ls [])) : MV l y ws rm D tys av w w' := by
  intro sz
  refine Met.ofW (cc := cc) (maxL := maxL) (ret := none) hy hw ?_
  intro p e s m args below meth c s₁ B hml hv
  obtain ⟨rfl, hsz, hP, hK, hD0, hN⟩ := hv
  subst hsz
  refine entry_ls hn (P := fun g => W p l e rm s m av.toArray below meth c s.heap [] 0 0 _ g) (fun ls hl => ?_)
  refine body p e s m _ below meth c (va_A w s.heap.size) _ ls s.heap [] ⟨B.exec, B.bytes, hml, findClass_of_methodNamed B.named, atoms_spec (ws := ws) B.pre, hK, hN, fun q h => Or.inr h, B.notSynchronized⟩ (name_of_methodNamed B.named B.method).1 va_S.rf hP hD0.self hl ?_
  intro u H locs cells slots pc ls wf hwf hP hD hS hc hs hdg
  subst hwf
  refine W.widen hc hs ?_
  exact W.vret B.exec B.bytes B.returns (fun t ht hW => ⟨⟨u, rfl, trivial, by rw [ht]; exact hP, hD⟩, hS.F ht⟩) hS.2.2 hdg B.notSynchronized
end
section
variable {p : Program} {l : Launch} {e : Env} {R : Room} {s : State} {m : MethodId} {args : Array Value} {below : List Frame} {meth : Method} {c : Code} {H : Heap} {locs : List Loc} {cells slots : Nat} {Q : State → Prop}
variable {y : MethodName} {bytes cc : ByteArray} {maxL nL n index pc : Nat} {ret : Option FieldType} {wsy : List Cond} {rmy : Room} {Qc : Array Value → State → Outcome → State → Prop} {free : Addr → Prop} {Ts : List Cond} {own C : String} {b : Addr} {As rest st : List Value} {ls : Array Slot}
variable {D : va_G} {tys : List (ClassId × FieldType)} {A : Nat → Prop} {wsW wc wr w1 : va_W} {H0 : Heap}
theorem run_V (S : CallFix p m c cc nL s args Ts own) (hM : Met l y wsy rmy (va_Pc (.ref b :: As) (cS D tys H.size wc)) Qc rmy.cells rmy.slots free) (cw : CallW R s args own C index y bytes maxL ret wsy rmy rmy.cells rmy.slots n)
    (hK : va_K D vwCl tys s) (hN : NW s) (hP : va_P D vwCl wsW H) (hD : va_D A wsW) (isC : List Nat) (hn0 : va_nd isC = true) (hC : isC.map (fun i => wsW[i]?) = wc.map some) (ci q0 : Nat) {fs : List Value} {q : vw_C} (he : wc[q0]? = some (b, .inr (ci, fs))) (hc : vwCl[ci]? = some q) (hq : q.1 = C)
    (hst : st = As.reverse ++ .ref b :: rest) (hn : As.length = n) (hsize : ls.size = nL) (hW : (rest.map fun v => v.category).sum ≤ 8) (hdg : decode cc pc = .ok (.invokevirtual index, 3)) (hf : cells + rmy.cells ≤ R.cells ∧ slots + rmy.slots ≤ R.slots) :
    va_Run p l e R s m args below meth c H locs cells slots rmy.cells rmy.slots (F0 m pc ls st) rest (Qc (Value.ref b :: As).toArray) free := by
  subst hq
  have hDc := hD.sub isC hn0 hC
  have hPc : va_P D vwCl wc H := by
    intro k q hk
    have h1 : (isC.map (fun i => wsW[i]?))[k]? = some (some q) := by rw [hC, List.getElem?_map, hk]; rfl
    rw [List.getElem?_map] at h1
    cases hi : isC[k]? with
    | none => rw [hi] at h1; cases h1
    | some i => rw [hi] at h1; exact hP i q (Option.some.inj h1)
  exact va_runV (g := F0 m pc ls st) S hM cw ⟨cS_blind, va_recv hK hPc hc he, fun U hU hW => ⟨rfl, by rw [hU], by rw [hU]; exact hPc, va_K.moved hW.alike hK, hDc.weaken (fun _ _ _ _ => trivial), hN.warm hW⟩⟩ rfl hn hsize hst (lv_room hW) hdg hf
theorem sub_P (hP : va_P D vwCl wsW H) {isC : List Nat} (hC : isC.map (fun i => wsW[i]?) = wc.map some) : va_P D vwCl wc H := by
  intro k q hk
  have h1 : (isC.map (fun i => wsW[i]?))[k]? = some (some q) := by rw [hC, List.getElem?_map, hk]; rfl
  rw [List.getElem?_map] at h1
  cases hi : isC[k]? with
  | none => rw [hi] at h1; cases h1
  | some i => rw [hi] at h1; exact hP i q (Option.some.inj h1)
theorem preS (hK : va_K D vwCl tys s) (hN : NW s) (hP : va_P D vwCl wsW H) (hD : va_D A wsW) (isC : List Nat) (hn0 : va_nd isC = true) (hC : isC.map (fun i => wsW[i]?) = wc.map some) : PreS s H (va_Pc As (cS D tys H.size wc)) As :=
  ⟨cS_blind, fun U hU hW => ⟨rfl, by rw [hU], by rw [hU]; exact sub_P hP hC, va_K.moved hW.alike hK, (hD.sub isC hn0 hC).weaken (fun _ _ _ _ => trivial), hN.warm hW⟩⟩
theorem run_S (S : CallFix p m c cc nL s args Ts own) (hM : Met l y wsy rmy (va_Pc As (cS D tys H.size wc)) Qc rmy.cells rmy.slots free) (cw : CallB R s args own index y bytes maxL ret wsy rmy rmy.cells rmy.slots n ∧ (Cond.static y).before args s = true)
    (hK : va_K D vwCl tys s) (hN : NW s) (hP : va_P D vwCl wsW H) (hD : va_D A wsW) (isC : List Nat) (hn0 : va_nd isC = true) (hC : isC.map (fun i => wsW[i]?) = wc.map some)
    (hst : st = As.reverse ++ rest) (hn : As.length = n) (hsize : ls.size = nL) (hW : (rest.map fun v => v.category).sum ≤ 8) (hdg : decode cc pc = .ok (.invokestatic index, 3)) (hf : cells + rmy.cells ≤ R.cells ∧ slots + rmy.slots ≤ R.slots) :
    va_Run p l e R s m args below meth c H locs cells slots rmy.cells rmy.slots (F0 m pc ls st) rest (Qc As.toArray) free :=
  va_runS (g := F0 m pc ls st) S hM cw (preS hK hN hP hD isC hn0 hC) rfl hn hsize hst (lv_room hW) hdg hf
theorem run_SN {host : String} (S : CallFix p m c cc nL s args Ts own) (hM : Met l y wsy rmy (va_Pc As (cS D tys H.size wc)) Qc rmy.cells rmy.slots free) (cw : va_CN R s args own index y host bytes maxL ret wsy rmy rmy.cells rmy.slots n ∧ (Cond.static y).before args s = true)
    (hK : va_K D vwCl tys s) (hN : NW s) (hP : va_P D vwCl wsW H) (hD : va_D A wsW) (isC : List Nat) (hn0 : va_nd isC = true) (hC : isC.map (fun i => wsW[i]?) = wc.map some)
    (hst : st = As.reverse ++ rest) (hn : As.length = n) (hsize : ls.size = nL) (hW : (rest.map fun v => v.category).sum ≤ 8) (hdg : decode cc pc = .ok (.invokestatic index, 3)) (hf : cells + rmy.cells ≤ R.cells ∧ slots + rmy.slots ≤ R.slots) :
    va_Run p l e R s m args below meth c H locs cells slots rmy.cells rmy.slots (F0 m pc ls st) rest (Qc As.toArray) free :=
  va_runSN (g := F0 m pc ls st) S hM ⟨cw.1, cw.2, trivial⟩ (preS hK hN hP hD isC hn0 hC) rfl hn hsize hst (lv_room hW) hdg hf
theorem run_I (S : CallFix p m c cc nL s args Ts own) (hM : Met l y wsy rmy (va_Pc (.ref b :: As) (cS D tys H.size wc)) Qc rmy.cells rmy.slots free) (cw : CallB R s args own index y bytes maxL none wsy rmy rmy.cells rmy.slots n ∧ y.name = "<init>" ∧ (Cond.instanceMethod y).before args s = true)
    (hK : va_K D vwCl tys s) (hN : NW s) (hP : va_P D vwCl wsW H) (hD : va_D A wsW) (isC : List Nat) (hn0 : va_nd isC = true) (hC : isC.map (fun i => wsW[i]?) = wc.map some)
    (hst : st = As.reverse ++ .ref b :: rest) (hn : As.length = n) (hsize : ls.size = nL) (hW : (rest.map fun v => v.category).sum ≤ 8) (hdg : decode cc pc = .ok (.invokespecial index, 3)) (hf : cells + rmy.cells ≤ R.cells ∧ slots + rmy.slots ≤ R.slots) :
    va_Run p l e R s m args below meth c H locs cells slots rmy.cells rmy.slots (F0 m pc ls st) rest (Qc (Value.ref b :: As).toArray) free :=
  va_runI (g := F0 m pc ls st) S hM cw (preS hK hN hP hD isC hn0 hC) rfl hn hsize hst (lv_room hW) hdg hf
theorem run_IN {host : String} (S : CallFix p m c cc nL s args Ts own) (hM : Met l y wsy rmy (va_Pc (.ref b :: As) (cS D tys H.size wc)) Qc rmy.cells rmy.slots free) (cw : va_CN R s args own index y host bytes maxL none wsy rmy rmy.cells rmy.slots n ∧ y.name = "<init>" ∧ (Cond.instanceMethod y).before args s = true)
    (hK : va_K D vwCl tys s) (hN : NW s) (hP : va_P D vwCl wsW H) (hD : va_D A wsW) (isC : List Nat) (hn0 : va_nd isC = true) (hC : isC.map (fun i => wsW[i]?) = wc.map some)
    (hst : st = As.reverse ++ .ref b :: rest) (hn : As.length = n) (hsize : ls.size = nL) (hW : (rest.map fun v => v.category).sum ≤ 8) (hdg : decode cc pc = .ok (.invokespecial index, 3)) (hf : cells + rmy.cells ≤ R.cells ∧ slots + rmy.slots ≤ R.slots) :
    va_Run p l e R s m args below meth c H locs cells slots rmy.cells rmy.slots (F0 m pc ls st) rest (Qc (Value.ref b :: As).toArray) free :=
  va_runIN (g := F0 m pc ls st) S hM cw (preS hK hN hP hD isC hn0 hC) rfl hn hsize hst (lv_room hW) hdg hf
theorem call_i {a : Array Value} {r : Int32} {mc ms k n : Nat} (hr : va_Run p l e R s m args below meth c H locs cells slots mc ms (F0 m pc ls st) rest (va_Qi (fun x (_ : Unit) => x = r) (fun _ t => cE D (va_A wc H.size) w1 t) (va_A wc H.size) a) (va_A wc H.size))
    (hP : va_P D vwCl wsW H) (hD : va_D A wsW) (hS : va_S A H0 H locs) (hA : ∀ q, H0.size ≤ q → A q) (isC isR : List Nat) (hC : isC.map (fun i => wsW[i]?) = wc.map some) (hR : isR.map (fun i => wsW[i]?) = wr.map some) (hn : va_nd isR = true) (hdis : ∀ i ∈ isR, i ∉ isC) (hck : cells + mc ≤ k) (hsn : slots + ms ≤ n)
    (kk : ∀ (H1 : Heap) (locs1 : List Loc), va_P D vwCl (wr ++ w1) H1 → va_D A (wr ++ w1) → va_S A H0 H1 locs1 → W p l e R s m args below meth c H1 locs1 k n Q (F0 m (pc + 3) ls (.int r :: rest))) :
    W p l e R s m args below meth c H locs cells slots Q (F0 m pc ls st) := by
  have hF := va_free hD hS hA isC hC
  refine va_calli hr hS (fun q _ h => hF q h) hF (fun r' u t H1 locs1 ht hvm hw hB hz1 hk1 hS1 => ?_)
  obtain ⟨hP1, hD1⟩ := hB
  rw [ht] at hP1
  obtain ⟨hP2, hD2⟩ := va_join hP hD isC isR hC hR hn hdis hk1 hF hP1 hD1
  rw [hw]
  exact W.widen hck hsn (kk H1 locs1 hP2 hD2 hS1)
theorem call_l {a : Array Value} {r : Int64} {mc ms k n : Nat} (hr : va_Run p l e R s m args below meth c H locs cells slots mc ms (F0 m pc ls st) rest (va_Ql (fun x (_ : Unit) => x = r) (fun _ t => cE D (va_A wc H.size) w1 t) (va_A wc H.size) a) (va_A wc H.size))
    (hP : va_P D vwCl wsW H) (hD : va_D A wsW) (hS : va_S A H0 H locs) (hA : ∀ q, H0.size ≤ q → A q) (isC isR : List Nat) (hC : isC.map (fun i => wsW[i]?) = wc.map some) (hR : isR.map (fun i => wsW[i]?) = wr.map some) (hn : va_nd isR = true) (hdis : ∀ i ∈ isR, i ∉ isC) (hck : cells + mc ≤ k) (hsn : slots + ms ≤ n)
    (kk : ∀ (H1 : Heap) (locs1 : List Loc), va_P D vwCl (wr ++ w1) H1 → va_D A (wr ++ w1) → va_S A H0 H1 locs1 → W p l e R s m args below meth c H1 locs1 k n Q (F0 m (pc + 3) ls (.long r :: rest))) :
    W p l e R s m args below meth c H locs cells slots Q (F0 m pc ls st) := by
  have hF := va_free hD hS hA isC hC
  refine va_calll hr hS (fun q _ h => hF q h) hF (fun r' u t H1 locs1 ht hvm hw hB hz1 hk1 hS1 => ?_)
  obtain ⟨hP1, hD1⟩ := hB
  rw [ht] at hP1
  obtain ⟨hP2, hD2⟩ := va_join hP hD isC isR hC hR hn hdis hk1 hF hP1 hD1
  rw [hw]
  exact W.widen hck hsn (kk H1 locs1 hP2 hD2 hS1)
theorem call_v {S : Type} {w1 : S → va_W} {a : Array Value} {mc ms k n : Nat} (hr : va_Run p l e R s m args below meth c H locs cells slots mc ms (F0 m pc ls st) rest (va_Qv (fun (_ : S) => True) (fun u t => cE D (va_A wc H.size) (w1 u) t) (va_A wc H.size) a) (va_A wc H.size))
    (hP : va_P D vwCl wsW H) (hD : va_D A wsW) (hS : va_S A H0 H locs) (hA : ∀ q, H0.size ≤ q → A q) (isC isR : List Nat) (hC : isC.map (fun i => wsW[i]?) = wc.map some) (hR : isR.map (fun i => wsW[i]?) = wr.map some) (hn : va_nd isR = true) (hdis : ∀ i ∈ isR, i ∉ isC) (hck : cells + mc ≤ k) (hsn : slots + ms ≤ n)
    (kk : ∀ (u : S) (H1 : Heap) (locs1 : List Loc), va_P D vwCl (wr ++ w1 u) H1 → va_D A (wr ++ w1 u) → va_S A H0 H1 locs1 → W p l e R s m args below meth c H1 locs1 k n Q (F0 m (pc + 3) ls rest)) :
    W p l e R s m args below meth c H locs cells slots Q (F0 m pc ls st) := by
  have hF := va_free hD hS hA isC hC
  refine va_callv hr hS (fun q _ h => hF q h) hF (fun u t H1 locs1 ht hvm hw hB hz1 hk1 hS1 => ?_)
  obtain ⟨hP1, hD1⟩ := hB
  rw [ht] at hP1
  obtain ⟨hP2, hD2⟩ := va_join hP hD isC isR hC hR hn hdis hk1 hF hP1 hD1
  exact W.widen hck hsn (kk u H1 locs1 hP2 hD2 hS1)
variable {a : Nat}
theorem r_ald (hexec : p.tables.exec = Jvm.exec) (hb : c.code = cc) (hK : va_K D vwCl tys s) (hP : va_P D vwCl wsW H) (q0 t0 : Nat) {cA : ClassId} {n : Nat} {f : Nat → Int32} (ha : wsW[q0]? = some (a, .inl (cA, n, .inl f))) (ht : tys[t0]? = some (cA, .int)) {i : Int32} (k : Nat) (hi : i = nI k) (hkn : k < n) (hn : n < 2 ^ 31) {v : Int32} (hv : f k = v) (hdg : decode cc pc = .ok (.iaload, 1))
    (kk : W p l e R s m args below meth c H locs cells slots Q (F0 m (pc + 1) ls (.int v :: rest))) : W p l e R s m args below meth c H locs cells slots Q (F0 m pc ls (.int i :: .ref a :: rest)) := by
  subst hi
  refine va_iald hexec hb hK hP q0 t0 ha ht (vp_in_nI hkn hn) hdg ?_
  rw [nI_clamp (Nat.lt_trans hkn hn), hv]
  exact kk
theorem r_ast (hexec : p.tables.exec = Jvm.exec) (hb : c.code = cc) (hK : va_K D vwCl tys s) (hP : va_P D vwCl wsW H) (hD : va_D A wsW) (hS : va_S A H0 H locs) (q0 t0 : Nat) {cA : ClassId} {n : Nat} {f : Nat → Int32} (ha : wsW[q0]? = some (a, .inl (cA, n, .inl f))) (ht : tys[t0]? = some (cA, .int)) {i x : Int32} (k : Nat) (hi : i = nI k) (hkn : k < n) (hn : n < 2 ^ 31) (hdg : decode cc pc = .ok (.iastore, 1))
    (kk : ∀ (H1 : Heap) (locs1 : List Loc), va_P D vwCl (wsW.set q0 (a, .inl (cA, n, .inl (upd f k x)))) H1 → va_D A (wsW.set q0 (a, .inl (cA, n, .inl (upd f k x)))) → va_S A H0 H1 locs1 → W p l e R s m args below meth c H1 locs1 cells slots Q (F0 m (pc + 1) ls rest)) : W p l e R s m args below meth c H locs cells slots Q (F0 m pc ls (.int x :: .int i :: .ref a :: rest)) := by
  subst hi
  refine va_iast hexec hb hK hP hD hS q0 t0 ha ht (vp_in_nI hkn hn) hdg (fun H1 locs1 h1 h2 h3 => ?_)
  rw [nI_clamp (Nat.lt_trans hkn hn)] at h1 h2
  exact kk H1 locs1 h1 h2 h3
/-- one array class of a name -/
theorem ra_eq {U : State} {c1 c2 : ClassId} {ty : FieldType} (h1 : va_RA U c1 ty) (h2 : va_RA U c2 ty) : c1 = c2 := by
  cases ty with
  | object C =>
    obtain ⟨-, -, -, -, -, e1⟩ := h1
    obtain ⟨-, -, -, -, -, e2⟩ := h2
    exact Option.some.inj (e1.symm.trans e2)
  | _ => exact Option.some.inj (Eq.trans (Eq.symm h1) h2)
theorem r_newa (hexec : p.tables.exec = Jvm.exec) (hb : c.code = cc) {atype : ArrayType} (harr : (Cond.arrayClass (newarray.typeOf atype)).before args s = true) {ty : FieldType} (hty : newarray.typeOf atype = ty) (hK : va_K D vwCl tys s) (hP : va_P D vwCl wsW H) (hD : va_D A wsW) (hS : va_S A H0 H locs) (hA : ∀ q, H0.size ≤ q → A q) (t0 : Nat) {cA : ClassId} (ht : tys[t0]? = some (cA, ty))
    {n : Int32} {N' : Nat} {a0 : vp_A} (ha : ∀ cA : ClassId, vp_cell cA a0 = arrV cA N' (fun _ => defaultValue ty)) (hn : ¬ n < 0) (hN : n.toNatClampNeg = N') (hbytes : N' * componentBytes ty ≤ 536870912) (hcells : cells + 1 ≤ R.cells) (hslots : slots + N' ≤ R.slots) (hdg : decode cc pc = .ok (.newarray atype, 2))
    (kk : ∀ (q : Nat) (H1 : Heap), va_P D vwCl (wsW ++ [(q, .inl (cA, a0))]) H1 → va_D A (wsW ++ [(q, .inl (cA, a0))]) → va_S A H0 H1 locs →
      W p l e R s m args below meth c H1 locs (cells + 1) (slots + N') Q (F0 m (pc + 2) ls (.ref q :: rest))) : W p l e R s m args below meth c H locs cells slots Q (F0 m pc ls (.int n :: rest)) := by
  refine va_newa hexec hb harr hty hK hP hD hS hA ha hn hN hbytes hcells hslots hdg (fun q cB H1 hK1 hP1 hD1 hS1 => ?_)
  have e1 := (hK1.2 tys.length (cB, ty) (by simp)).2
  have e2 := (hK.2 t0 _ ht).2
  have e3 : cB = cA := ra_eq e1 e2
  subst e3
  exact kk q H1 hP1 hD1 hS1
end
end BASE
end
