section LAWCALL
variable {p : Program} {l : Launch} {e : Env} {R : Room} {s : State} {m : MethodId} {args : Array Value} {below : List Frame} {meth : Method} {c : Code} {H : Heap} {locs : List Loc} {cells slots : Nat} {Q : State → Prop}
variable {y : MethodName} {bytes cc : ByteArray} {maxL nL n index pc : Nat} {ret : Option FieldType} {wsy : List Cond} {rmy : Room} {Ts : List Cond} {own C : String} {b : Addr} {As rest st : List Value} {ls : Array Slot} {hh : List (Nat × Nat × Nat × Nat)}
variable {D : va_G} {tys : List (ClassId × FieldType)} {A : Nat → Prop} {wc wr : va_W} {H0 : Heap}
/-- the law calls a helper -/
theorem callH {S0 : Type} {k : Int32} {w1 : S0 → va_W} (S : CallFix p m c cc nL s args Ts own) (hM : HI l y wsy rmy D tys As wc k w1) (cw : vx_CSW R s args own index y bytes maxL ret hh wsy rmy rmy.cells rmy.slots n)
    (hK : va_K D vwCl tys s) (hN : NW s) (hxs : XS s) (hz0 : ZS A s H0) (hP : va_P D vwCl (wr ++ wc) H) (hD : va_D A (wr ++ wc)) (hS : va_S A H0 H locs) (hA : ∀ q, H0.size ≤ q → A q)
    (hst : st = As.reverse ++ rest) (hn : As.length = n) (hsize : ls.size = nL) (hW : (rest.map fun v => v.category).sum ≤ 8) (hdg : decode cc pc = .ok (.invokestatic index, 3)) (hf : cells + rmy.cells ≤ R.cells ∧ slots + rmy.slots ≤ R.slots)
    (kk : ∀ (u : S0) (H1 : Heap) (locs1 : List Loc), va_P D vwCl (wr ++ w1 u) H1 → va_D A (wr ++ w1 u) → va_S A H0 H1 locs1 → W p l e R s m args below meth c H1 locs1 (cells + rmy.cells) (slots + rmy.slots) Q (F0 m (pc + 3) ls (.int k :: rest))) : W p l e R s m args below meth c H locs cells slots Q (F0 m pc ls st) := by
  have hF := va_free hD hS hA (ixC wr wc) (ix_C wr wc)
  have hr := vx_runSX (H := H) (l := l) (e := e) (R := R) (below := below) (meth := meth) (locs := locs) (cells := cells) (slots := slots) (g := F0 m pc ls st) (rest := rest) S (hM H.size) cw ⟨cX_blind, preX hK hN hxs hz0 hP hD hS hA⟩ rfl hn hsize hst (lv_room hW) hdg hf
  have hr2 : vx_Run p l e R s m args below meth c H locs cells slots rmy.cells rmy.slots (F0 m pc ls st) rest (va_Qi (fun x (_ : S0) => x = k) (fun u t => cE D (va_A wc H.size) (w1 u) t) (va_A wc H.size) As.toArray) (vx_X (fun (_ : Unit) => False) (fun _ _ _ => False) (fun _ => False)) (va_A wc H.size) := by
    intro T hT X
    rcases hr T hT X with h | ⟨q, a1, a2, a3, a4, E, a6, a7, a8, a9, a10, a11, h⟩
    · exact Or.inl h
    · exact h.1.elim
  refine vx_calli hr2 hS (fun q _ h => hF q h) hF (fun q _ h => h.elim) (fun E ce q9 u t H1 locs1 ht hvm hpx hB hz1 hk1 hS1 hce hcv hcl => hpx.elim) (fun r' u t H1 locs1 ht hvm hw hB hz1 hk1 hS1 => ?_)
  obtain ⟨hP1, hD1⟩ := hB
  rw [ht] at hP1
  obtain ⟨hP2, hD2⟩ := va_join hP hD (ixC wr wc) (List.range wr.length) (ix_C wr wc) (ix_R wr wc) (ix_ndR _) (ix_dis wr wc) hk1 hF hP1 hD1
  rw [hw]
  exact kk u H1 locs1 hP2 hD2 hS1
theorem callM_i {r : Int32} {w1 : va_W} (S : CallFix p m c cc nL s args Ts own) (hM : MI l y wsy rmy D tys (.ref b :: As) wc r w1) (cw : CallW R s args own C index y bytes maxL ret wsy rmy rmy.cells rmy.slots n)
    (hK : va_K D vwCl tys s) (hN : NW s) (hP : va_P D vwCl (wr ++ wc) H) (hD : va_D A (wr ++ wc)) (hS : va_S A H0 H locs) (hA : ∀ q, H0.size ≤ q → A q) (ci q0 : Nat) {fs : List Value} {q : vw_C} (he : wc[q0]? = some (b, .inr (ci, fs))) (hc : vwCl[ci]? = some q) (hq : q.1 = C)
    (hst : st = As.reverse ++ .ref b :: rest) (hn : As.length = n) (hsize : ls.size = nL) (hW : (rest.map fun v => v.category).sum ≤ 8) (hdg : decode cc pc = .ok (.invokevirtual index, 3)) (hf : cells + rmy.cells ≤ R.cells ∧ slots + rmy.slots ≤ R.slots)
    (kk : ∀ (H1 : Heap) (locs1 : List Loc), va_P D vwCl (wr ++ w1) H1 → va_D A (wr ++ w1) → va_S A H0 H1 locs1 → W p l e R s m args below meth c H1 locs1 (cells + rmy.cells) (slots + rmy.slots) Q (F0 m (pc + 3) ls (.int r :: rest))) : W p l e R s m args below meth c H locs cells slots Q (F0 m pc ls st) :=
  call_i (run_V S (hM H.size) cw hK hN hP hD (ixC wr wc) (ix_ndC wr wc) (ix_C wr wc) ci q0 he hc hq hst hn hsize hW hdg hf) hP hD hS hA (ixC wr wc) (List.range wr.length) (ix_C wr wc) (ix_R wr wc) (ix_ndR _) (ix_dis wr wc) (Nat.le_refl _) (Nat.le_refl _) kk
theorem callM_l {r : Int64} {w1 : va_W} (S : CallFix p m c cc nL s args Ts own) (hM : ML l y wsy rmy D tys (.ref b :: As) wc r w1) (cw : CallW R s args own C index y bytes maxL ret wsy rmy rmy.cells rmy.slots n)
    (hK : va_K D vwCl tys s) (hN : NW s) (hP : va_P D vwCl (wr ++ wc) H) (hD : va_D A (wr ++ wc)) (hS : va_S A H0 H locs) (hA : ∀ q, H0.size ≤ q → A q) (ci q0 : Nat) {fs : List Value} {q : vw_C} (he : wc[q0]? = some (b, .inr (ci, fs))) (hc : vwCl[ci]? = some q) (hq : q.1 = C)
    (hst : st = As.reverse ++ .ref b :: rest) (hn : As.length = n) (hsize : ls.size = nL) (hW : (rest.map fun v => v.category).sum ≤ 8) (hdg : decode cc pc = .ok (.invokevirtual index, 3)) (hf : cells + rmy.cells ≤ R.cells ∧ slots + rmy.slots ≤ R.slots)
    (kk : ∀ (H1 : Heap) (locs1 : List Loc), va_P D vwCl (wr ++ w1) H1 → va_D A (wr ++ w1) → va_S A H0 H1 locs1 → W p l e R s m args below meth c H1 locs1 (cells + rmy.cells) (slots + rmy.slots) Q (F0 m (pc + 3) ls (.long r :: rest))) : W p l e R s m args below meth c H locs cells slots Q (F0 m pc ls st) :=
  call_l (run_V S (hM H.size) cw hK hN hP hD (ixC wr wc) (ix_ndC wr wc) (ix_C wr wc) ci q0 he hc hq hst hn hsize hW hdg hf) hP hD hS hA (ixC wr wc) (List.range wr.length) (ix_C wr wc) (ix_R wr wc) (ix_ndR _) (ix_dis wr wc) (Nat.le_refl _) (Nat.le_refl _) kk
theorem callM_v {S0 : Type} {w1 : S0 → va_W} (S : CallFix p m c cc nL s args Ts own) (hM : MV l y wsy rmy D tys (.ref b :: As) wc w1) (cw : CallW R s args own C index y bytes maxL ret wsy rmy rmy.cells rmy.slots n)
    (hK : va_K D vwCl tys s) (hN : NW s) (hP : va_P D vwCl (wr ++ wc) H) (hD : va_D A (wr ++ wc)) (hS : va_S A H0 H locs) (hA : ∀ q, H0.size ≤ q → A q) (ci q0 : Nat) {fs : List Value} {q : vw_C} (he : wc[q0]? = some (b, .inr (ci, fs))) (hc : vwCl[ci]? = some q) (hq : q.1 = C)
    (hst : st = As.reverse ++ .ref b :: rest) (hn : As.length = n) (hsize : ls.size = nL) (hW : (rest.map fun v => v.category).sum ≤ 8) (hdg : decode cc pc = .ok (.invokevirtual index, 3)) (hf : cells + rmy.cells ≤ R.cells ∧ slots + rmy.slots ≤ R.slots)
    (kk : ∀ (u : S0) (H1 : Heap) (locs1 : List Loc), va_P D vwCl (wr ++ w1 u) H1 → va_D A (wr ++ w1 u) → va_S A H0 H1 locs1 → W p l e R s m args below meth c H1 locs1 (cells + rmy.cells) (slots + rmy.slots) Q (F0 m (pc + 3) ls rest)) : W p l e R s m args below meth c H locs cells slots Q (F0 m pc ls st) :=
  call_v (run_V S (hM H.size) cw hK hN hP hD (ixC wr wc) (ix_ndC wr wc) (ix_C wr wc) ci q0 he hc hq hst hn hsize hW hdg hf) hP hD hS hA (ixC wr wc) (List.range wr.length) (ix_C wr wc) (ix_R wr wc) (ix_ndR _) (ix_dis wr wc) (Nat.le_refl _) (Nat.le_refl _) kk
end LAWCALL
