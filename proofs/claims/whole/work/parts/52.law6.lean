section LAW6
section NANS
theorem nan_dec {n : Nat} (h : 9218868437227405312 < n % 9223372036854775808) : FP.Core.decode FP.Core.b64 n = .nan := by
  have e1 : FP.Core.b64.tails = 4503599627370496 := rfl
  have e2 : FP.Core.b64.exps = 2048 := rfl
  have a1 : FP.Core.fieldE FP.Core.b64 n = 2047 := by
    unfold FP.Core.fieldE
    rw [e1, e2]
    omega
  have a2 : ¬ FP.Core.fieldT FP.Core.b64 n = 0 := by
    unfold FP.Core.fieldT
    rw [e1]
    omega
  unfold FP.Core.decode
  rw [a1, e2, if_pos rfl, if_neg a2]
theorem nan_cmp {a b : UInt64} (h : isNaN64 a = true) : FP.dcmp a b = none := by
  have h1 := isNaN64_iff.mp h
  rw [show (0x7fffffffffffffff : Nat) = 2 ^ 63 - 1 from rfl, Nat.and_two_pow_sub_one_eq_mod] at h1
  have h2 : FP.Core.decode FP.Core.b64 a.toNat = .nan := nan_dec h1
  show FP.Core.order (FP.Core.decode FP.Core.b64 a.toNat) (FP.Core.decode FP.Core.b64 b.toNat) = none
  rw [h2]
  rfl
theorem av_two {x y z : UInt64} (hp : alike64 x z = true) (hq : alike64 y z = true) (h : ¬ Op.cmpValue (FP.dcmp x y) .l = 0) : ¬ Op.cmpValue (FP.dcmp x x) .l = 0 ∧ ¬ Op.cmpValue (FP.dcmp y y) .l = 0 := by
  by_cases e : x = y
  · subst e
    exact ⟨h, h⟩
  · have np : isNaN64 x = true ∧ isNaN64 y = true := by
      unfold alike64 at hp hq
      rw [Bool.or_eq_true, Bool.and_eq_true, decide_eq_true_eq] at hp hq
      rcases hp with hp | hp
      · rcases hq with hq | hq
        · exact absurd (hp.trans hq.symm) e
        · exact ⟨by rw [hp]; exact hq.2, hq.1⟩
      · rcases hq with hq | hq
        · exact ⟨hp.1, by rw [hq]; exact hp.2⟩
        · exact ⟨hp.1, hq.1⟩
    refine ⟨?_, ?_⟩
    · rw [nan_cmp np.1]; decide
    · rw [nan_cmp np.2]; decide
theorem av_both {t : Int32} {x y z : UInt64} (h1 : (t = 0 → x = FP.dconst0) ∧ (¬ t = 0 → alike64 x z = true)) (h2 : (t = 0 → y = FP.dconst0) ∧ (¬ t = 0 → alike64 y z = true)) (h : ¬ Op.cmpValue (FP.dcmp x y) .l = 0) : ¬ Op.cmpValue (FP.dcmp x x) .l = 0 ∧ ¬ Op.cmpValue (FP.dcmp y y) .l = 0 := by
  by_cases e : t = 0
  · refine av_two (z := FP.dconst0) ?_ ?_ h
    · rw [h1.1 e]; exact alike64_refl _
    · rw [h2.1 e]; exact alike64_refl _
  · exact av_two (h1.2 e) (h2.2 e) h
end NANS
section CALLD
variable {p : Program} {l : Launch} {e : Env} {R : Room} {s : State} {m : MethodId} {args : Array Value} {below : List Frame} {meth : Method} {c : Code} {H : Heap} {locs : List Loc} {cells slots : Nat} {Q : State → Prop}
variable {y : MethodName} {bytes cc : ByteArray} {maxL nL n index pc : Nat} {ret : Option FieldType} {wsy : List Cond} {rmy : Room} {Ts : List Cond} {own C : String} {b : Addr} {As rest st : List Value} {ls : Array Slot}
variable {D : va_G} {tys : List (ClassId × FieldType)} {A : Nat → Prop} {wc wr : va_W} {H0 : Heap}
/-- the law calls a method that may draw -/
theorem callM_d {post : UInt64 → Prop} {w1 : va_W} {d0 : Drawn} (hd0 : s.drawn.sameBut d0 lw_cs) (S : CallFix p m c cc nL (s.setDrawn d0) args Ts own) (hM : MD l y wsy rmy D tys (.ref b :: As) wc post w1) (cw : CallW R (s.setDrawn d0) args own C index y bytes maxL ret wsy rmy rmy.cells rmy.slots n)
    (hK : va_K D vwCl tys (s.setDrawn d0)) (hN : NW (s.setDrawn d0)) (hP : va_P D vwCl (wr ++ wc) H) (hD : va_D A (wr ++ wc)) (hS : va_S A H0 H locs) (hA : ∀ q, H0.size ≤ q → A q) (ci q0 : Nat) {fs : List Value} {q : vw_C} (he : wc[q0]? = some (b, .inr (ci, fs))) (hc : vwCl[ci]? = some q) (hq : q.1 = C)
    (hst : st = As.reverse ++ .ref b :: rest) (hn : As.length = n) (hsize : ls.size = nL) (hW : (rest.map fun v => v.category).sum ≤ 8) (hdg : decode cc pc = .ok (.invokevirtual index, 3)) (hf : cells + rmy.cells ≤ R.cells ∧ slots + rmy.slots ≤ R.slots)
    (kk : ∀ (r : UInt64) (d1 : Drawn) (H1 : Heap) (locs1 : List Loc), s.drawn.sameBut d1 lw_cs → post r → va_P D vwCl (wr ++ w1) H1 → va_D A (wr ++ w1) → va_S A H0 H1 locs1 → W p l e R (s.setDrawn d1) m args below meth c H1 locs1 (cells + rmy.cells) (slots + rmy.slots) Q (F0 m (pc + 3) ls (.double r :: rest))) : W p l e R (s.setDrawn d0) m args below meth c H locs cells slots Q (F0 m pc ls st) := by
  subst hq
  have hPc : va_P D vwCl wc H := sub_P hP (ix_C wr wc)
  have hDc := hD.sub (ixC wr wc) (ix_ndC wr wc) (ix_C wr wc)
  have hF := va_free hD hS hA (ixC wr wc) (ix_C wr wc)
  refine va_calldD hd0 (va_runV_D (g := F0 m pc ls st) S (hM H.size) cw ⟨cS_blind, va_recv hK hPc hc he, fun U hU hW => ⟨rfl, by rw [hU], by rw [hU]; exact hPc, va_K.moved hW.alike hK, hDc.weaken (fun _ _ _ _ => trivial), hN.warm hW⟩⟩ rfl hn hsize hst (lv_room hW) hdg hf) hS (fun q _ h => hF q h) hF (fun r u t H1 locs1 ht hvm hw hB hz1 hk1 hS1 d1 hd1 => ?_)
  obtain ⟨hP1, hD1⟩ := hB
  rw [ht] at hP1
  obtain ⟨hP2, hD2⟩ := va_join hP hD (ixC wr wc) (List.range wr.length) (ix_C wr wc) (ix_R wr wc) (ix_ndR _) (ix_dis wr wc) hk1 hF hP1 hD1
  exact kk r d1 H1 locs1 hd1 hw hP2 hD2 hS1
end CALLD
variable {p : Program} {l : Launch} {e : Env} {R : Room} {s : State} {m : MethodId} {args : Array Value} {below : List Frame} {meth : Method} {c : Code} {H : Heap} {locs : List Loc} {cells slots : Nat} {Q : State → Prop}
set_option maxHeartbeats 4000000 in
set_option maxRecDepth 100000 in
theorem kc_connect {D : va_G} {cI cJ cZ cO : ClassId} {b L g0 m0 o i B : Nat} {xs : Nat → Int32} {W1 : va_W} {d0 : Drawn} {ls : Array Slot} (C : LC p s m args c D cI cJ cZ cO b L xs) (hL : L ≤ 2560) (hi : i + 5 ≤ L) (hR : 10 ≤ R.frames ∧ 376 ≤ R.locals) (hc : cells + 20 ≤ R.cells ∧ slots + 400 ≤ R.slots)
    (hI : LI cI cJ cZ cO g0 m0 o B W1) (hP : va_P D vwCl W1 H) (hD : va_D (fun q => s.heap.size ≤ q) W1) (hS : va_S (fun q => s.heap.size ≤ q) s.heap H locs) (hd0 : s.drawn.sameBut d0 lw_cs) (hl : lv_has ls 9 (lvL b g0 m0 o i))
    (K : KN p l e R s m args below meth c D cI cJ cZ cO Q b g0 m0 o i B cells slots) : W p l e R (s.setDrawn d0) m args below meth c H locs cells slots Q (F0 m 264 ls []) := by
  obtain ⟨hx, hb, hml, hown, hts, hK, hN, hxs, hz0, hX, hbl⟩ := C
  have hts := dr_words hts d0
  have hown : (s.setDrawn d0).vm.findClass RL = some m.cls := hown
  have hX : va_X b L xs (s.setDrawn d0) s.heap := hX
  have hK : va_K D vwCl (tysK cI cJ cZ cO) (s.setDrawn d0) := hK
  have hN : NW (s.setDrawn d0) := NW.same (u := s) (U := s.setDrawn d0) rfl hN
  have hxs : XS (s.setDrawn d0) := XS.same (u := s) (U := s.setDrawn d0) rfl hxs
  have hz0 : ZS (fun q => s.heap.size ≤ q) (s.setDrawn d0) s.heap := hz0.moved (U := s.setDrawn d0) (Vm.Alike.refl s.vm)
  have hbA : ¬ (fun q : Nat => s.heap.size ≤ q) b := Nat.not_le.mpr hbl
  have hA : ∀ q : Nat, s.heap.size ≤ q → (fun q : Nat => s.heap.size ≤ q) q := fun _ h => h
  obtain ⟨a, bt, f, cf, E, fb, cb, eb, s0, sc, S0, S1, ma, tw, as, sl, se, sv, ov, rfl, rfl, hg, ha, hs0, hs1⟩ := hI

  refine lv_aload_n hx hb dL_law_264 rfl (lv_at hl 1 rfl) ?_
  refine lv_aload_n hx hb dL_law_265 rfl (lv_at hl 0 rfl) ?_
  refine lv_iload hx hb dL_law_266 (lv_at hl 4 rfl) ?_
  refine lv_iconst (v := 1) hx hb dL_law_268 (by decide) ?_
  refine lv_iadd hx hb dL_law_269 ?_
  refine r_scr hx hb hX hbl hbA hS (i := i + 1) (by omega) hL (nI_1 i) dL_law_270 ?_
  obtain ⟨p0, e0⟩ : ∃ x, xs (i + 1) = x := ⟨_, rfl⟩
  rw [e0]
  have K1 : ∀ v : Int32, v = (if p0 = 0 then 0 else 1 : Int32) → W p l e R (s.setDrawn d0) m args below meth c H locs cells slots Q (F0 m 279 ls [.int v, .ref g0]) := by
    intro v hv
    have hv01 : v = 0 ∨ v = 1 := by rw [hv]; split; exact Or.inl rfl; exact Or.inr rfl
    refine callM_i (As := [.int v]) (rest := []) ⟨hx, hb, hml, hown, hts⟩ (wrX6_connect l D cI cJ cZ cO g0 (bt 0) s0 a f cf E v hv01 hg.1.co) (cwV 1 hts gL_law_X6_connect rfl rfl rfl (by decide +kernel) ⟨by show 0 + 1 ≤ R.frames; omega, by show 8 + (3 + 11) + 0 ≤ R.locals; omega⟩) hK hN (P_perm (pm_1 _ _ _ _ _ _ _) hP) (D_perm (pm_1 _ _ _ _ _ _ _) hD) hS hA 6 0 rfl rfl rfl rfl rfl hl.1 (Nat.le_of_ble_eq_true rfl) dL_law_279 ⟨by show cells + 0 ≤ R.cells; omega, by show slots + 0 ≤ R.slots; omega⟩ (fun H locs hP hD hS => ?_)
    replace hP := P_perm (pm_1 (giC g0 (a 0) (bt 0) s0) (scC cO s0 sc) (ocC cJ o ov) (simW cI a (a_h1_X7_connect f v) cf E) (simW cI bt fb cb eb) (S0 ++ S1) (mdW cI cJ cZ ma E tw f as sl se sv)).symm hP
    replace hD := D_perm (pm_1 (giC g0 (a 0) (bt 0) s0) (scC cO s0 sc) (ocC cJ o ov) (simW cI a (a_h1_X7_connect f v) cf E) (simW cI bt fb cb eb) (S0 ++ S1) (mdW cI cJ cZ ma E tw f as sl se sv)).symm hD
    refine lv_aload_n hx hb dL_law_282 rfl (lv_at hl 2 rfl) ?_
    refine lv_aload_n hx hb dL_law_283 rfl (lv_at hl 0 rfl) ?_
    refine lv_iload hx hb dL_law_284 (lv_at hl 4 rfl) ?_
    refine lv_iconst (v := 1) hx hb dL_law_286 (by decide) ?_
    refine lv_iadd hx hb dL_law_287 ?_
    refine r_scr hx hb hX hbl hbA hS (i := i + 1) (by omega) hL (nI_1 i) dL_law_288 ?_
    rw [e0]
    have K2 : ∀ v2 : Int32, v2 = (if p0 = 0 then 0 else 1 : Int32) → W p l e R (s.setDrawn d0) m args below meth c H locs (cells + 0) (slots + 0) Q (F0 m 297 ls [.int v2, .ref (ma 0), .int (r_X7_connect f)]) := by
      intro v2 hv2
      have ev2 : v2 = v := hv2.trans hv.symm
      rw [ev2]
      refine callM_i (As := [.int v]) (rest := [.int (r_X7_connect f)]) ⟨hx, hb, hml, hown, hts⟩ (mX7_connect l D cI cJ cZ cO (ma 0) (ma 1) (ma 2) (ma 3) (ma 4) (ma 5) E tw f v) (cwV 1 hts gL_law_X7_connect rfl rfl rfl (by decide +kernel) ⟨by show 0 + 1 ≤ R.frames; omega, by show 8 + (3 + 11) + 0 ≤ R.locals; omega⟩) hK hN (P_perm (pm_7 _ _ _ _ _ _ _ _ _) hP) (D_perm (pm_7 _ _ _ _ _ _ _ _ _) hD) hS hA 7 0 rfl rfl rfl rfl rfl hl.1 (Nat.le_of_ble_eq_true rfl) dL_law_297 ⟨by show cells + 0 + 0 ≤ R.cells; omega, by show slots + 0 + 0 ≤ R.slots; omega⟩ (fun H locs hP hD hS => ?_)
      replace hP := P_perm (pm_7 (giC g0 (a 0) (bt 0) s0) (scC cO s0 sc) (ocC cJ o ov) _ _ (simW cI a (a_h1_X7_connect f v) cf E) (simW cI bt fb cb eb) (S0 ++ S1) _).symm hP
      replace hD := D_perm (pm_7 (giC g0 (a 0) (bt 0) s0) (scC cO s0 sc) (ocC cJ o ov) _ _ (simW cI a (a_h1_X7_connect f v) cf E) (simW cI bt fb cb eb) (S0 ++ S1) _).symm hD
      refine lv_icmp_eq (tgt := 1414) hx hb dL_law_300 (by decide) (fun _ => ?_) (fun h => absurd rfl h)
      refine W.widen (k := cells + 20) (n := slots + 400) (by show cells + 0 + 0 ≤ cells + 20; omega) (by show slots + 0 + 0 ≤ slots + 400; omega) ?_
      have kp := kp_connect (p0 := v) hg ha
      exact K _ H locs d0 ls ⟨a, bt, _, _, _, fb, cb, eb, s0, sc, S0, S1, ma, _, as, sl, se, sv, ov, rfl, rfl, kp.1.up (by omega), kp.2, hs0.up (by omega), hs1.up (by omega)⟩ hP hD hS hd0 hl
    refine lv_if_eq (tgt := 296) hx hb dL_law_289 (by decide) (fun h => ?_) (fun h => ?_)
    · refine lv_iconst (v := 0) hx hb dL_law_296 (by decide) ?_
      exact K2 0 (by rw [if_pos h])
    · refine lv_iconst (v := 1) hx hb dL_law_292 (by decide) ?_
      refine lv_goto (tgt := 297) hx hb dL_law_293 (by decide) ?_
      exact K2 1 (by rw [if_neg h])
  refine lv_if_eq (tgt := 278) hx hb dL_law_271 (by decide) (fun h => ?_) (fun h => ?_)
  · refine lv_iconst (v := 0) hx hb dL_law_278 (by decide) ?_
    exact K1 0 (by rw [if_pos h])
  · refine lv_iconst (v := 1) hx hb dL_law_274 (by decide) ?_
    refine lv_goto (tgt := 279) hx hb dL_law_275 (by decide) ?_
    exact K1 1 (by rw [if_neg h])

set_option maxHeartbeats 4000000 in
set_option maxRecDepth 100000 in
theorem kc_availability {D : va_G} {cI cJ cZ cO : ClassId} {b L g0 m0 o i B : Nat} {xs : Nat → Int32} {W1 : va_W} {d0 : Drawn} {ls : Array Slot} (C : LC p s m args c D cI cJ cZ cO b L xs) (hL : L ≤ 2560) (hi : i + 5 ≤ L) (hR : 10 ≤ R.frames ∧ 376 ≤ R.locals) (hc : cells + 20 ≤ R.cells ∧ slots + 400 ≤ R.slots)
    (hI : LI cI cJ cZ cO g0 m0 o B W1) (hP : va_P D vwCl W1 H) (hD : va_D (fun q => s.heap.size ≤ q) W1) (hS : va_S (fun q => s.heap.size ≤ q) s.heap H locs) (hd0 : s.drawn.sameBut d0 lw_cs) (hl : lv_has ls 9 (lvL b g0 m0 o i))
    (hB : B < 2147483648) (K : KN p l e R s m args below meth c D cI cJ cZ cO Q b g0 m0 o i B cells slots) : W p l e R (s.setDrawn d0) m args below meth c H locs cells slots Q (F0 m 968 ls []) := by
  have C9 := C
  obtain ⟨hx, hb, hml, hown, hts, hK, hN, hxs, hz0, hX, hbl⟩ := C
  have hts := dr_words hts d0
  have hown : (s.setDrawn d0).vm.findClass RL = some m.cls := hown
  have hX : va_X b L xs (s.setDrawn d0) s.heap := hX
  have hK : va_K D vwCl (tysK cI cJ cZ cO) (s.setDrawn d0) := hK
  have hN : NW (s.setDrawn d0) := NW.same (u := s) (U := s.setDrawn d0) rfl hN
  have hxs : XS (s.setDrawn d0) := XS.same (u := s) (U := s.setDrawn d0) rfl hxs
  have hz0 : ZS (fun q => s.heap.size ≤ q) (s.setDrawn d0) s.heap := hz0.moved (U := s.setDrawn d0) (Vm.Alike.refl s.vm)
  have hbA : ¬ (fun q : Nat => s.heap.size ≤ q) b := Nat.not_le.mpr hbl
  have hA : ∀ q : Nat, s.heap.size ≤ q → (fun q : Nat => s.heap.size ≤ q) q := fun _ h => h
  obtain ⟨a, bt, f, cf, E, fb, cb, eb, s0, sc, S0, S1, ma, tw, as, sl, se, sv, ov, rfl, rfl, hg, ha, hs0, hs1⟩ := hI

  obtain ⟨hIv, t_, z, q, ht_, ht2_, hz, hz8, hq, hq2⟩ := id hg.1
  refine lv_aload_n hx hb dL_law_968 rfl (lv_at hl 1 rfl) ?_
  refine callM_d hd0 (As := []) (rest := []) ⟨hx, hb, hml, hown, hts⟩ (mX6_availability l D cI cJ cZ cO g0 (bt 0) s0 (a 0) (a 1) (a 2) (a 3) (a 4) (a 5) (a 6) (a 7) (a 8) (a 9) (a 10) (a 11) (a 12) f cf E t_ ht_ (by omega)) (cwV 0 hts gL_law_X6_availability rfl rfl rfl (by decide +kernel) ⟨by show 0 + 1 ≤ R.frames; omega, by show 8 + (2 + 11) + 0 ≤ R.locals; omega⟩) hK hN (P_perm (pm_1 _ _ _ _ _ _ _) hP) (D_perm (pm_1 _ _ _ _ _ _ _) hD) hS hA 6 0 rfl rfl rfl rfl rfl hl.1 (Nat.le_of_ble_eq_true rfl) dL_law_969 ⟨by show cells + 0 ≤ R.cells; omega, by show slots + 0 ≤ R.slots; omega⟩ (fun v1 d1 H locs hd1 hv1 hP hD hS => ?_)
  obtain ⟨-, -, -, hown, hts, hK, hN, hxs, hz0, hX, -⟩ := id C9
  have hts := dr_words hts d1
  have hown : (s.setDrawn d1).vm.findClass RL = some m.cls := hown
  have hK : va_K D vwCl (tysK cI cJ cZ cO) (s.setDrawn d1) := hK
  have hN : NW (s.setDrawn d1) := NW.same (u := s) (U := s.setDrawn d1) rfl hN
  replace hP := P_perm (pm_1 (giC g0 (a 0) (bt 0) s0) (scC cO s0 sc) (ocC cJ o ov) (simW cI a f cf E) (simW cI bt fb cb eb) (S0 ++ S1) (mdW cI cJ cZ ma E tw f as sl se sv)).symm hP
  replace hD := D_perm (pm_1 (giC g0 (a 0) (bt 0) s0) (scC cO s0 sc) (ocC cJ o ov) (simW cI a f cf E) (simW cI bt fb cb eb) (S0 ++ S1) (mdW cI cJ cZ ma E tw f as sl se sv)).symm hD
  refine lv_dstore (lv' := (5, .double v1) :: lvL b g0 (ma 0) o i) hx hb dL_law_972 hl (by decide) rfl (fun ls hl => ?_)
  refine lv_aload_n hx hb dL_law_974 rfl (lv_at hl 3 rfl) ?_
  refine callM_d hd1 (As := []) (rest := []) ⟨hx, hb, hml, hown, hts⟩ (mX7_availability l D cI cJ cZ cO (ma 0) (ma 1) (ma 2) (ma 3) (ma 4) (ma 5) E tw f) (cwV 0 hts gL_law_X7_availability rfl rfl rfl (by decide +kernel) ⟨by show 0 + 1 ≤ R.frames; omega, by show 8 + (1 + 11) + 0 ≤ R.locals; omega⟩) hK hN (P_perm (pm_7 _ _ _ _ _ _ _ _ _) hP) (D_perm (pm_7 _ _ _ _ _ _ _ _ _) hD) hS hA 7 0 rfl rfl rfl rfl rfl hl.1 (Nat.le_of_ble_eq_true rfl) dL_law_975 ⟨by show cells + 0 + 0 ≤ R.cells; omega, by show slots + 0 + 0 ≤ R.slots; omega⟩ (fun v2 d2 H locs hd2 hv2 hP hD hS => ?_)
  obtain ⟨-, -, -, hown, hts, hK, hN, hxs, hz0, hX, -⟩ := id C9
  have hts := dr_words hts d2
  have hown : (s.setDrawn d2).vm.findClass RL = some m.cls := hown
  have hK : va_K D vwCl (tysK cI cJ cZ cO) (s.setDrawn d2) := hK
  have hN : NW (s.setDrawn d2) := NW.same (u := s) (U := s.setDrawn d2) rfl hN
  replace hP := P_perm (pm_7 (giC g0 (a 0) (bt 0) s0) (scC cO s0 sc) (ocC cJ o ov) _ _ (simW cI a f cf E) (simW cI bt fb cb eb) (S0 ++ S1) _).symm hP
  replace hD := D_perm (pm_7 (giC g0 (a 0) (bt 0) s0) (scC cO s0 sc) (ocC cJ o ov) _ _ (simW cI a f cf E) (simW cI bt fb cb eb) (S0 ++ S1) _).symm hD
  refine lv_dstore (lv' := (7, .double v2) :: (5, .double v1) :: lvL b g0 (ma 0) o i) hx hb dL_law_978 hl (by decide) rfl (fun ls hl => ?_)
  have hend : W p l e R (s.setDrawn d2) m args below meth c H locs (cells + 0 + 0) (slots + 0 + 0) Q (F0 m 1006 ls []) := by
    refine lv_goto (tgt := 1414) hx hb dL_law_1006 (by decide) ?_
    refine W.widen (k := cells + 20) (n := slots + 400) (by show cells + 0 + 0 ≤ cells + 20; omega) (by show slots + 0 + 0 ≤ slots + 400; omega) ?_
    exact K _ H locs d2 ls ⟨a, bt, _, _, _, fb, cb, eb, s0, sc, S0, S1, ma, _, as, sl, se, sv, ov, rfl, rfl, hg.up (by omega), ha, hs0.up (by omega), hs1.up (by omega)⟩ hP hD hS hd2 (lv_sub hl [2, 3, 4, 5, 6] rfl)
  refine lv_dload hx hb dL_law_980 (lv_at hl 1 rfl) ?_
  refine lv_dload hx hb dL_law_982 (lv_at hl 0 rfl) ?_
  refine lv_dcmp hx hb dL_law_984 ?_
  refine lv_if_eq (tgt := 1006) hx hb dL_law_985 (by decide) (fun _ => hend) (fun h1 => ?_)
  have key := av_both hv1 hv2 h1
  refine lv_dload hx hb dL_law_988 (lv_at hl 1 rfl) ?_
  refine lv_dload hx hb dL_law_990 (lv_at hl 1 rfl) ?_
  refine lv_dcmp hx hb dL_law_992 ?_
  refine lv_if_eq (tgt := 1004) hx hb dL_law_993 (by decide) (fun h2 => absurd h2 key.1) (fun _ => ?_)
  refine lv_dload hx hb dL_law_996 (lv_at hl 0 rfl) ?_
  refine lv_dload hx hb dL_law_998 (lv_at hl 0 rfl) ?_
  refine lv_dcmp hx hb dL_law_1000 ?_
  exact lv_if_ne (tgt := 1006) hx hb dL_law_1001 (by decide) (fun _ => hend) (fun h3 => absurd h3 key.2)
end LAW6
