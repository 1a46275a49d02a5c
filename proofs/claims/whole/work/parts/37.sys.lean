section FRAME
theorem D_iff {A : Nat → Prop} {w : va_W} : va_D A w ↔ (w.map Prod.fst).Nodup ∧ ∀ q ∈ w, A q.1 := by
  constructor
  · intro h
    refine ⟨?_, fun q hq => ?_⟩
    · refine List.pairwise_iff_getElem.mpr (fun i j hi hj hij e => ?_)
      rw [List.length_map] at hi hj
      rw [List.getElem_map, List.getElem_map] at e
      have := h.1 i j _ _ (List.getElem?_eq_getElem hi) (List.getElem?_eq_getElem hj) e
      omega
    · obtain ⟨k, hk⟩ := List.mem_iff_getElem?.mp hq
      exact h.2 k q hk
  · intro h
    refine ⟨fun i j p q hi hj e => ?_, fun k q hk => h.2 q (List.mem_iff_getElem?.mpr ⟨k, hk⟩)⟩
    refine Classical.byContradiction fun hne => ?_
    have hn := List.pairwise_iff_getElem.mp h.1
    obtain ⟨li, gi⟩ := List.getElem?_eq_some_iff.mp hi
    obtain ⟨lj, gj⟩ := List.getElem?_eq_some_iff.mp hj
    rcases Nat.lt_or_gt_of_ne hne with h1 | h1
    · exact hn i j (by rw [List.length_map]; exact li) (by rw [List.length_map]; exact lj) h1 (by rw [List.getElem_map, List.getElem_map, gi, gj, e])
    · exact hn j i (by rw [List.length_map]; exact lj) (by rw [List.length_map]; exact li) h1 (by rw [List.getElem_map, List.getElem_map, gi, gj, e])
theorem P_iff {D : va_G} {cl : List vw_C} {w : va_W} {H : Heap} : va_P D cl w H ↔ ∀ q ∈ w, va_at D cl q H :=
  ⟨fun h q hq => by obtain ⟨k, hk⟩ := List.mem_iff_getElem?.mp hq; exact h k q hk, fun h k q hk => h q (List.mem_iff_getElem?.mpr ⟨k, hk⟩)⟩
theorem D_perm {A : Nat → Prop} {w w' : va_W} (hp : w.Perm w') (h : va_D A w) : va_D A w' := by
  rw [D_iff] at h ⊢
  exact ⟨(hp.map Prod.fst).nodup_iff.mp h.1, fun q hq => h.2 q (hp.mem_iff.mpr hq)⟩
theorem P_perm {D : va_G} {cl : List vw_C} {w w' : va_W} {H : Heap} (hp : w.Perm w') (h : va_P D cl w H) : va_P D cl w' H := by
  rw [P_iff] at h ⊢
  exact fun q hq => h q (hp.mem_iff.mpr hq)
def ixC (wr wc : va_W) : List Nat := (List.range wc.length).map (· + wr.length)
theorem ix_C (wr wc : va_W) : (ixC wr wc).map (fun i => (wr ++ wc)[i]?) = wc.map some := by
  apply List.ext_getElem?
  intro k
  unfold ixC
  rw [List.getElem?_map, List.getElem?_map, List.getElem?_map]
  by_cases h : k < wc.length
  · rw [List.getElem?_range h, List.getElem?_eq_getElem h]
    show some ((wr ++ wc)[k + wr.length]?) = some (some wc[k])
    rw [List.getElem?_append_right (Nat.le_add_left _ _), Nat.add_sub_cancel, List.getElem?_eq_getElem h]
  · rw [List.getElem?_eq_none (by rw [List.length_range]; omega), List.getElem?_eq_none (by omega)]; rfl
theorem ix_R (wr wc : va_W) : (List.range wr.length).map (fun i => (wr ++ wc)[i]?) = wr.map some := by
  apply List.ext_getElem?
  intro k
  rw [List.getElem?_map, List.getElem?_map]
  by_cases h : k < wr.length
  · rw [List.getElem?_range h, List.getElem?_eq_getElem h]
    show some ((wr ++ wc)[k]?) = some (some wr[k])
    rw [List.getElem?_append_left h, List.getElem?_eq_getElem h]
  · rw [List.getElem?_eq_none (by rw [List.length_range]; omega), List.getElem?_eq_none (by omega)]; rfl
theorem nd_of {l : List Nat} (h : l.Nodup) : va_nd l = true := by
  induction l with
  | nil => rfl
  | cons a l ih =>
    rw [List.nodup_cons] at h
    simp only [va_nd, Bool.and_eq_true, decide_eq_true_eq]
    exact ⟨h.1, ih h.2⟩
theorem ix_ndR (n : Nat) : va_nd (List.range n) = true := nd_of List.nodup_range
theorem ix_ndC (wr wc : va_W) : va_nd (ixC wr wc) = true := by
  refine nd_of ?_
  unfold ixC
  refine List.pairwise_map.mpr (List.Pairwise.imp (fun {a b} h e => h (Nat.add_right_cancel e)) (List.nodup_range (n := wc.length)))
theorem ix_dis (wr wc : va_W) : ∀ i ∈ List.range wr.length, i ∉ ixC wr wc := by
  intro i hi h
  unfold ixC at h
  obtain ⟨j, -, e⟩ := List.mem_map.mp h
  have := List.mem_range.mp hi
  omega
section
variable {p : Program} {l : Launch} {e : Env} {R : Room} {s : State} {m : MethodId} {args : Array Value} {below : List Frame} {meth : Method} {c : Code} {H : Heap} {locs : List Loc} {cells slots : Nat} {Q : State → Prop}
variable {y : MethodName} {bytes cc : ByteArray} {maxL nL n index pc : Nat} {ret : Option FieldType} {wsy : List Cond} {rmy : Room} {Ts : List Cond} {own C : String} {b : Addr} {As rest st : List Value} {ls : Array Slot}
variable {D : va_G} {tys : List (ClassId × FieldType)} {A : Nat → Prop} {wc wr : va_W} {H0 : Heap}
/-- what a call of a method that may throw asks for -/
theorem preX (hK : va_K D vwCl tys s) (hN : NW s) (hxs : XS s) (hz0 : ZS A s H0) (hP : va_P D vwCl (wr ++ wc) H) (hD : va_D A (wr ++ wc)) (hS : va_S A H0 H locs) (hA : ∀ q, H0.size ≤ q → A q) {av : List Value} : ∀ U : State, U.heap = H → s.WarmedH U.vm → va_Pc av (cX D tys H.size wc) av.toArray U := by
  intro U hU hW
  have hDc := hD.sub (ixC wr wc) (ix_ndC wr wc) (ix_C wr wc)
  refine ⟨rfl, ⟨by rw [hU], by rw [hU]; exact sub_P hP (ix_C wr wc), va_K.moved hW.alike hK, hDc.weaken (fun _ _ _ _ => trivial), hN.warm hW⟩, hxs.warm hW, ?_⟩
  rw [hU]
  exact ((hz0.kept hS.2.1).narrow (va_free hD hS hA (ixC wr wc) (ix_C wr wc))).moved hW.alike
theorem callX_i {k r : Int32} {w1 : va_W} {EX : Int32 → String} (S : CallFix p m c cc nL s args Ts own) (hM : MXI l y wsy rmy D tys (.ref b :: As) wc k r w1 EX) (cw : CallW R s args own C index y bytes maxL ret wsy rmy rmy.cells rmy.slots n)
    (hK : va_K D vwCl tys s) (hN : NW s) (hxs : XS s) (hz0 : ZS A s H0) (hP : va_P D vwCl (wr ++ wc) H) (hD : va_D A (wr ++ wc)) (hS : va_S A H0 H locs) (hA : ∀ q, H0.size ≤ q → A q) (ci q0 : Nat) {fs : List Value} {q : vw_C} (he : wc[q0]? = some (b, .inr (ci, fs))) (hc : vwCl[ci]? = some q) (hq : q.1 = C)
    (hst : st = As.reverse ++ .ref b :: rest) (hn : As.length = n) (hsize : ls.size = nL) (hW : (rest.map fun v => v.category).sum ≤ 8) (hdg : decode cc pc = .ok (.invokevirtual index, 3)) (hf : cells + rmy.cells ≤ R.cells ∧ slots + rmy.slots ≤ R.slots)
    (kx : ¬ k = 0 → ∀ (ce : Cell) (q9 : Addr) (H1 : Heap) (locs1 : List Loc), va_P D vwCl (wr ++ w1) H1 → va_D A (wr ++ w1) → va_S A H0 H1 locs1 → H1[q9]? = some ce → ce.vm = .none → s.vm.findClass (EX k) = some ce.cls → vx_W p l e R s m args below meth c H1 locs1 (cells + rmy.cells) (slots + rmy.slots) Q (F0 m pc ls rest) q9)
    (kk : k = 0 → ∀ (H1 : Heap) (locs1 : List Loc), va_P D vwCl (wr ++ w1) H1 → va_D A (wr ++ w1) → va_S A H0 H1 locs1 → W p l e R s m args below meth c H1 locs1 (cells + rmy.cells) (slots + rmy.slots) Q (F0 m (pc + 3) ls (.int r :: rest))) : W p l e R s m args below meth c H locs cells slots Q (F0 m pc ls st) := by
  subst hq
  have hPc : va_P D vwCl wc H := sub_P hP (ix_C wr wc)
  have hF := va_free hD hS hA (ixC wr wc) (ix_C wr wc)
  refine vx_calli (vx_runV (g := F0 m pc ls st) S (hM H.size) cw ⟨cX_blind, va_recv hK hPc hc he, preX hK hN hxs hz0 hP hD hS hA⟩ rfl hn hsize hst (lv_room hW) hdg hf) hS (fun q _ h => hF q h) hF (fun q _ h => hF q h) (fun E ce q9 u t H1 locs1 ht hvm hpx hB hz1 hk1 hS1 hce hcv hcl => ?_) (fun r' u t H1 locs1 ht hvm hw hB hz1 hk1 hS1 => ?_)
  · obtain ⟨hE, hP1, hD1⟩ := hB
    rw [ht] at hP1
    obtain ⟨hP2, hD2⟩ := va_join hP hD (ixC wr wc) (List.range wr.length) (ix_C wr wc) (ix_R wr wc) (ix_ndR _) (ix_dis wr wc) hk1 hF hP1 hD1
    exact kx hpx ce q9 H1 locs1 hP2 hD2 hS1 hce hcv (hE ▸ hcl)
  · obtain ⟨hP1, hD1⟩ := hB
    rw [ht] at hP1
    obtain ⟨hP2, hD2⟩ := va_join hP hD (ixC wr wc) (List.range wr.length) (ix_C wr wc) (ix_R wr wc) (ix_ndR _) (ix_dis wr wc) hk1 hF hP1 hD1
    rw [hw.2]
    exact kk hw.1 H1 locs1 hP2 hD2 hS1
theorem callX_v {S0 : Type} {k : Int32} {w1 : S0 → va_W} {EX : Int32 → String} (S : CallFix p m c cc nL s args Ts own) (hM : MXV l y wsy rmy D tys (.ref b :: As) wc k w1 EX) (cw : CallW R s args own C index y bytes maxL ret wsy rmy rmy.cells rmy.slots n)
    (hK : va_K D vwCl tys s) (hN : NW s) (hxs : XS s) (hz0 : ZS A s H0) (hP : va_P D vwCl (wr ++ wc) H) (hD : va_D A (wr ++ wc)) (hS : va_S A H0 H locs) (hA : ∀ q, H0.size ≤ q → A q) (ci q0 : Nat) {fs : List Value} {q : vw_C} (he : wc[q0]? = some (b, .inr (ci, fs))) (hc : vwCl[ci]? = some q) (hq : q.1 = C)
    (hst : st = As.reverse ++ .ref b :: rest) (hn : As.length = n) (hsize : ls.size = nL) (hW : (rest.map fun v => v.category).sum ≤ 8) (hdg : decode cc pc = .ok (.invokevirtual index, 3)) (hf : cells + rmy.cells ≤ R.cells ∧ slots + rmy.slots ≤ R.slots)
    (kx : ¬ k = 0 → ∀ (u : S0) (ce : Cell) (q9 : Addr) (H1 : Heap) (locs1 : List Loc), va_P D vwCl (wr ++ w1 u) H1 → va_D A (wr ++ w1 u) → va_S A H0 H1 locs1 → H1[q9]? = some ce → ce.vm = .none → s.vm.findClass (EX k) = some ce.cls → vx_W p l e R s m args below meth c H1 locs1 (cells + rmy.cells) (slots + rmy.slots) Q (F0 m pc ls rest) q9)
    (kk : k = 0 → ∀ (u : S0) (H1 : Heap) (locs1 : List Loc), va_P D vwCl (wr ++ w1 u) H1 → va_D A (wr ++ w1 u) → va_S A H0 H1 locs1 → W p l e R s m args below meth c H1 locs1 (cells + rmy.cells) (slots + rmy.slots) Q (F0 m (pc + 3) ls rest)) : W p l e R s m args below meth c H locs cells slots Q (F0 m pc ls st) := by
  subst hq
  have hPc : va_P D vwCl wc H := sub_P hP (ix_C wr wc)
  have hF := va_free hD hS hA (ixC wr wc) (ix_C wr wc)
  refine vx_callv (vx_runV (g := F0 m pc ls st) S (hM H.size) cw ⟨cX_blind, va_recv hK hPc hc he, preX hK hN hxs hz0 hP hD hS hA⟩ rfl hn hsize hst (lv_room hW) hdg hf) hS (fun q _ h => hF q h) hF (fun q _ h => hF q h) (fun E ce q9 u t H1 locs1 ht hvm hpx hB hz1 hk1 hS1 hce hcv hcl => ?_) (fun u t H1 locs1 ht hvm hw hB hz1 hk1 hS1 => ?_)
  · obtain ⟨hE, hP1, hD1⟩ := hB
    rw [ht] at hP1
    obtain ⟨hP2, hD2⟩ := va_join hP hD (ixC wr wc) (List.range wr.length) (ix_C wr wc) (ix_R wr wc) (ix_ndR _) (ix_dis wr wc) hk1 hF hP1 hD1
    exact kx hpx u ce q9 H1 locs1 hP2 hD2 hS1 hce hcv (hE ▸ hcl)
  · obtain ⟨hP1, hD1⟩ := hB
    rw [ht] at hP1
    obtain ⟨hP2, hD2⟩ := va_join hP hD (ixC wr wc) (List.range wr.length) (ix_C wr wc) (ix_R wr wc) (ix_ndR _) (ix_dis wr wc) hk1 hF hP1 hD1
    exact kk hw u H1 locs1 hP2 hD2 hS1
end
/-- a helper of the law: it answers k, whatever was thrown -/
def HI {S : Type} (l : Launch) (y : MethodName) (ws : List Cond) (rm : Room) (D : va_G) (tys : List (ClassId × FieldType)) (av : List Value) (w : va_W) (k : Int32) (w' : S → va_W) : Prop :=
  ∀ sz : Nat, vx_Met l y ws rm (va_Pc av (cX D tys sz w)) (va_Qi (fun x (_ : S) => x = k) (fun u t => cE D (va_A w sz) (w' u) t) (va_A w sz)) (fun _ _ _ => False) rm.cells rm.slots (va_A w sz)
theorem HI.of {l : Launch} {y : MethodName} {ws ws' : List Cond} {rm : Room} {D : va_G} {tys : List (ClassId × FieldType)} {av : List Value} {w : va_W} {cc : ByteArray} {maxL : Nat} {S : Type} {w' : S → va_W} {k : Int32} {hh : List (Nat × Nat × Nat × Nat)} (hy : plainName y.cls = true) (hw : ws = Cond.codeWith y cc maxL (some .int) hh :: ws') (hn : (lg_sl av).length ≤ maxL)
    (body : ∀ (p : Program) (e : Env) (s : State) (m : MethodId) (args : Array Value) (below : List Frame) (meth : Method) (c : Code) (A : Nat → Prop) (Q : State → Prop) (ls : Array Slot) (H : Heap) (locs : List Loc),
      Bg p s m args meth c cc y.cls ws D tys maxL A → XS s → ZS A s s.heap → c.exceptionTable.toList = tableOf hh → va_S A s.heap H locs → va_P D vwCl w H → va_D A w → lv_has ls maxL (lv_args 0 av) →
      (∀ (u : S) (v : Int32) (H : Heap) (locs : List Loc) (cells slots pc : Nat) (ls : Array Slot) (wf : va_W), v = k → wf = w' u → va_P D vwCl wf H → va_D A wf → va_S A s.heap H locs → cells ≤ rm.cells → slots ≤ rm.slots → decode cc pc = .ok (.ireturn, 1) →
        W p l e rm s m args below meth c H locs cells slots Q (F0 m pc ls [.int v])) →
      W p l e rm s m args below meth c H locs 0 0 Q (F0 m 0 ls [])) : HI l y ws rm D tys av w k w' := by
  intro sz
  refine vx_ofWH (cc := cc) (maxL := maxL) (ret := some .int) (hh := hh) hy hw ?_
  intro p e s m args below meth c s₁ B hml hv
  obtain ⟨rfl, ⟨hsz, hP, hK, hD0, hN⟩, hxs, hzs⟩ := hv
  subst hsz
  have hts := atoms_spec (ws := ws) B.pre
  have htab := vx_table (x := y) B (hts _ (by rw [hw]; exact List.mem_cons_self))
  refine entry_ls hn (P := fun g => W p l e rm s m av.toArray below meth c s.heap [] 0 0 _ g) (fun ls hl => ?_)
  refine body p e s m _ below meth c (va_A w s.heap.size) _ ls s.heap [] ⟨B.exec, B.bytes, hml, findClass_of_methodNamed B.named, hts, hK, hN, fun q h => Or.inr h, B.notSynchronized⟩ hxs hzs htab va_S.rf hP hD0.self hl ?_
  intro u v H locs cells slots pc ls wf hv hwf hP hD hS hc hs hdg
  subst hv; subst hwf
  refine vx_ret (W.widen hc hs ?_)
  exact W.zret (ty := .int) (v := v) B.exec B.bytes B.returns rfl (fun t ht hW => ⟨⟨v, u, rfl, rfl, by rw [ht]; exact hP, hD⟩, hS.F ht⟩) hS.2.2 hdg B.notSynchronized
end FRAME
