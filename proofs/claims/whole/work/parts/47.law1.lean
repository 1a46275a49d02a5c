section LAW1
variable {p : Program} {l : Launch} {e : Env} {R : Room} {s : State} {m : MethodId} {args : Array Value} {below : List Frame} {meth : Method} {c : Code} {H : Heap} {locs : List Loc} {cells slots : Nat} {Q : State → Prop}
set_option maxHeartbeats 4000000 in
set_option maxRecDepth 100000 in
theorem kc_setLoad {D : va_G} {cI cJ cZ cO : ClassId} {b L g0 m0 o i B : Nat} {xs : Nat → Int32} {W1 : va_W} {d0 : Drawn} {ls : Array Slot} (hlt : l.stackTraces = false) (C : LC p s m args c D cI cJ cZ cO b L xs) (hL : L ≤ 2560) (hi : i + 5 ≤ L) (hR : 10 ≤ R.frames ∧ 376 ≤ R.locals) (hc : cells + 20 ≤ R.cells ∧ slots + 400 ≤ R.slots)
    (hI : LI cI cJ cZ cO g0 m0 o B W1) (hP : va_P D vwCl W1 H) (hD : va_D (fun q => s.heap.size ≤ q) W1) (hS : va_S (fun q => s.heap.size ≤ q) s.heap H locs) (hd0 : s.drawn.sameBut d0 lw_cs) (hl : lv_has ls 9 (lvL b g0 m0 o i))
    (K : KN p l e R s m args below meth c D cI cJ cZ cO Q b g0 m0 o i B cells slots) : W p l e R (s.setDrawn d0) m args below meth c H locs cells slots Q (F0 m 305 ls []) := by
  obtain ⟨hx, hb, hml, hown, hts, hK, hN, hxs, hz0, hX, hbl⟩ := C
  have hts := dr_words hts d0
  have hown : (s.setDrawn d0).vm.findClass RL = some m.cls := hown
  have hX : va_X b L xs (s.setDrawn d0) s.heap := hX
  have hK : va_K D vwCl (tysK cI cJ cZ cO) (s.setDrawn d0) := hK
  have hN : NW (s.setDrawn d0) := NW.same (u := s) (U := s.setDrawn d0) rfl hN
  have hxs : XS (s.setDrawn d0) := XS.same (u := s) (U := s.setDrawn d0) rfl hxs
  have hz0 : ZS (fun q => s.heap.size ≤ q) (s.setDrawn d0) s.heap := hz0.moved (U := s.setDrawn d0) (Vm.Alike.refl s.vm)
  have hbA : ¬ (fun q : Nat => s.heap.size ≤ q) b := Nat.not_le.mpr hbl
  have hA : ∀ q : Nat, s.heap.size ≤ q → (fun q : Nat => s.heap.size ≤ q) q := fun _ h => h
  obtain ⟨a, bt, f, cf, E, fb, cb, eb, s0, sc, S0, S1, ma, tw, as, sl, se, sv, ov, rfl, rfl, hg, ha, hs0, hs1⟩ := hI

  refine lv_aload_n hx hb dL_law_305 rfl (lv_at hl 1 rfl) ?_
  refine lv_aload_n hx hb dL_law_306 rfl (lv_at hl 0 rfl) ?_
  refine lv_iload hx hb dL_law_307 (lv_at hl 4 rfl) ?_
  refine lv_iconst (v := 1) hx hb dL_law_309 (by decide) ?_
  refine lv_iadd hx hb dL_law_310 ?_
  refine r_scr hx hb hX hbl hbA hS (i := i + 1) (by omega) hL (nI_1 i) dL_law_311 ?_
  refine lv_aload_n hx hb dL_law_312 rfl (lv_at hl 0 rfl) ?_
  refine lv_iload hx hb dL_law_313 (lv_at hl 4 rfl) ?_
  refine lv_iconst (v := 2) hx hb dL_law_315 (by decide) ?_
  refine lv_iadd hx hb dL_law_316 ?_
  refine r_scr hx hb hX hbl hbA hS (i := i + 2) (by omega) hL (nI_add i 2) dL_law_317 ?_
  refine lv_aload_n hx hb dL_law_318 rfl (lv_at hl 0 rfl) ?_
  refine lv_iload hx hb dL_law_319 (lv_at hl 4 rfl) ?_
  refine lv_iconst (v := 3) hx hb dL_law_321 (by decide) ?_
  refine lv_iadd hx hb dL_law_322 ?_
  refine r_scr hx hb hX hbl hbA hS (i := i + 3) (by omega) hL (nI_add i 3) dL_law_323 ?_
  obtain ⟨p0, e0⟩ : ∃ x, xs (i + 1) = x := ⟨_, rfl⟩
  obtain ⟨p1, e1⟩ : ∃ x, xs (i + 2) = x := ⟨_, rfl⟩
  obtain ⟨p2, e2⟩ : ∃ x, xs (i + 3) = x := ⟨_, rfl⟩
  rw [e0, e1, e2]
  refine callH (hh := _) (As := [.ref g0, .int p0, .int p1, .int p2]) (rest := []) ⟨hx, hb, hml, hown, hts⟩ (hL_setLoad l D cI cJ cZ cO g0 p0 p1 p2 _ rfl (by decide) (giC g0 (a 0) (bt 0) s0 :: simW cI a f cf E) (fun (_ : Unit) => giC g0 (a 0) (bt 0) s0 :: simW cI a (a_h1_X7_setLoad f p0 p1 p2) cf E) (v_h0_thrown_X7_setLoad p0 p1 p2) _ rfl (by unfold v_h0_thrown_X7_setLoad; (repeat' split) <;> first | exact Or.inl rfl | exact Or.inr rfl) (wrX6_setLoad l hlt D cI cJ cZ cO g0 (bt 0) s0 a f cf E p0 p1 p2)) (vx_cwSW 4 hts gL_law_L_setLoad rfl rfl rfl (by decide +kernel) ⟨by show 7 + 1 ≤ R.frames; omega, by show 8 + (5 + 11) + 230 ≤ R.locals; omega⟩) hK hN hxs hz0 (P_perm (pm_1 _ _ _ _ _ _ _) hP) (D_perm (pm_1 _ _ _ _ _ _ _) hD) hS hA rfl rfl hl.1 (Nat.le_of_ble_eq_true rfl) dL_law_324 ⟨by show cells + 1 ≤ R.cells; omega, by show slots + 6 ≤ R.slots; omega⟩ (fun u H locs hP hD hS => ?_)
  replace hP := P_perm (pm_1 (giC g0 (a 0) (bt 0) s0) (scC cO s0 sc) (ocC cJ o ov) (simW cI a (a_h1_X7_setLoad f p0 p1 p2) cf E) (simW cI bt fb cb eb) (S0 ++ S1) (mdW cI cJ cZ ma E tw f as sl se sv)).symm hP
  replace hD := D_perm (pm_1 (giC g0 (a 0) (bt 0) s0) (scC cO s0 sc) (ocC cJ o ov) (simW cI a (a_h1_X7_setLoad f p0 p1 p2) cf E) (simW cI bt fb cb eb) (S0 ++ S1) (mdW cI cJ cZ ma E tw f as sl se sv)).symm hD
  refine lv_istore (lv' := (5, .int (v_h0_thrown_X7_setLoad p0 p1 p2)) :: lvL b g0 (ma 0) o i) hx hb dL_law_327 hl (by decide) rfl (fun ls hl => ?_)
  refine lv_aload_n hx hb dL_law_329 rfl (lv_at hl 3 rfl) ?_
  refine lv_aload_n hx hb dL_law_330 rfl (lv_at hl 1 rfl) ?_
  refine lv_iload hx hb dL_law_331 (lv_at hl 5 rfl) ?_
  refine lv_iconst (v := 1) hx hb dL_law_333 (by decide) ?_
  refine lv_iadd hx hb dL_law_334 ?_
  refine r_scr hx hb hX hbl hbA hS (i := i + 1) (by omega) hL (nI_1 i) dL_law_335 ?_
  refine lv_aload_n hx hb dL_law_336 rfl (lv_at hl 1 rfl) ?_
  refine lv_iload hx hb dL_law_337 (lv_at hl 5 rfl) ?_
  refine lv_iconst (v := 2) hx hb dL_law_339 (by decide) ?_
  refine lv_iadd hx hb dL_law_340 ?_
  refine r_scr hx hb hX hbl hbA hS (i := i + 2) (by omega) hL (nI_add i 2) dL_law_341 ?_
  refine lv_aload_n hx hb dL_law_342 rfl (lv_at hl 1 rfl) ?_
  refine lv_iload hx hb dL_law_343 (lv_at hl 5 rfl) ?_
  refine lv_iconst (v := 3) hx hb dL_law_345 (by decide) ?_
  refine lv_iadd hx hb dL_law_346 ?_
  refine r_scr hx hb hX hbl hbA hS (i := i + 3) (by omega) hL (nI_add i 3) dL_law_347 ?_
  rw [e0, e1, e2]
  refine callM_v (As := [.int p0, .int p1, .int p2]) (rest := []) ⟨hx, hb, hml, hown, hts⟩ (mX7_setLoad l D cI cJ cZ cO (ma 0) (ma 1) (ma 2) (ma 3) (ma 4) (ma 5) E tw f p0 p1 p2) (cwV 3 hts gL_law_X7_setLoad rfl rfl rfl (by decide +kernel) ⟨by show 2 + 1 ≤ R.frames; omega, by show 8 + (4 + 11) + 44 ≤ R.locals; omega⟩) hK hN (P_perm (pm_7 _ _ _ _ _ _ _ _ _) hP) (D_perm (pm_7 _ _ _ _ _ _ _ _ _) hD) hS hA 7 0 rfl rfl rfl rfl rfl hl.1 (Nat.le_of_ble_eq_true rfl) dL_law_348 ⟨by show cells + 1 + 0 ≤ R.cells; omega, by show slots + 6 + 0 ≤ R.slots; omega⟩ (fun u H locs hP hD hS => ?_)
  replace hP := P_perm (pm_7 (giC g0 (a 0) (bt 0) s0) (scC cO s0 sc) (ocC cJ o ov) _ _ (simW cI a (a_h1_X7_setLoad f p0 p1 p2) cf E) (simW cI bt fb cb eb) (S0 ++ S1) _).symm hP
  replace hD := D_perm (pm_7 (giC g0 (a 0) (bt 0) s0) (scC cO s0 sc) (ocC cJ o ov) _ _ (simW cI a (a_h1_X7_setLoad f p0 p1 p2) cf E) (simW cI bt fb cb eb) (S0 ++ S1) _).symm hD
  refine lv_aload_n hx hb dL_law_351 rfl (lv_at hl 3 rfl) ?_
  refine callM_i (As := []) (rest := []) ⟨hx, hb, hml, hown, hts⟩ (mX7_thrown l D cI cJ cZ cO (ma 0) (ma 1) (ma 2) (ma 3) (ma 4) (ma 5) E (v_h0_thrown_X7_setLoad p0 p1 p2)) (cwV 0 hts gL_law_X7_thrown rfl rfl rfl (by decide +kernel) ⟨by show 0 + 1 ≤ R.frames; omega, by show 8 + (1 + 11) + 0 ≤ R.locals; omega⟩) hK hN (P_perm (pm_8 _ _ _ _ _ _ _ _) hP) (D_perm (pm_8 _ _ _ _ _ _ _ _) hD) hS hA 7 0 rfl rfl rfl rfl rfl hl.1 (Nat.le_of_ble_eq_true rfl) dL_law_352 ⟨by show cells + 1 + 0 + 0 ≤ R.cells; omega, by show slots + 6 + 0 + 0 ≤ R.slots; omega⟩ (fun H locs hP hD hS => ?_)
  replace hP := P_perm (pm_8 (giC g0 (a 0) (bt 0) s0) (scC cO s0 sc) (ocC cJ o ov) _ (simW cI a (a_h1_X7_setLoad f p0 p1 p2) cf E) (simW cI bt fb cb eb) (S0 ++ S1) _).symm hP
  replace hD := D_perm (pm_8 (giC g0 (a 0) (bt 0) s0) (scC cO s0 sc) (ocC cJ o ov) _ (simW cI a (a_h1_X7_setLoad f p0 p1 p2) cf E) (simW cI bt fb cb eb) (S0 ++ S1) _).symm hD
  refine lv_iload hx hb dL_law_355 (lv_at hl 0 rfl) ?_
  refine lv_icmp_eq (tgt := 362) hx hb dL_law_357 (by decide) (fun _ => ?_) (fun h => absurd rfl h)
  refine lv_goto (tgt := 1414) hx hb dL_law_362 (by decide) ?_
  refine W.widen (k := cells + 20) (n := slots + 400) (by show cells + 1 + 0 + 0 ≤ cells + 20; omega) (by show slots + 6 + 0 + 0 ≤ slots + 400; omega) ?_
  have kp := kp_setLoad (p0 := p0) (p1 := p1) (p2 := p2) hg ha
  exact K _ H locs d0 ls ⟨a, bt, _, _, _, fb, cb, eb, s0, sc, S0, S1, ma, _, as, sl, se, sv, ov, rfl, rfl, kp.1.up (by omega), kp.2, hs0.up (by omega), hs1.up (by omega)⟩ hP hD hS hd0 (lv_sub hl [1, 2, 3, 4, 5] rfl)

set_option maxHeartbeats 4000000 in
set_option maxRecDepth 100000 in
theorem kc_setLoop {D : va_G} {cI cJ cZ cO : ClassId} {b L g0 m0 o i B : Nat} {xs : Nat → Int32} {W1 : va_W} {d0 : Drawn} {ls : Array Slot} (hlt : l.stackTraces = false) (C : LC p s m args c D cI cJ cZ cO b L xs) (hL : L ≤ 2560) (hi : i + 5 ≤ L) (hR : 10 ≤ R.frames ∧ 376 ≤ R.locals) (hc : cells + 20 ≤ R.cells ∧ slots + 400 ≤ R.slots)
    (hI : LI cI cJ cZ cO g0 m0 o B W1) (hP : va_P D vwCl W1 H) (hD : va_D (fun q => s.heap.size ≤ q) W1) (hS : va_S (fun q => s.heap.size ≤ q) s.heap H locs) (hd0 : s.drawn.sameBut d0 lw_cs) (hl : lv_has ls 9 (lvL b g0 m0 o i))
    (K : KN p l e R s m args below meth c D cI cJ cZ cO Q b g0 m0 o i B cells slots) : W p l e R (s.setDrawn d0) m args below meth c H locs cells slots Q (F0 m 365 ls []) := by
  obtain ⟨hx, hb, hml, hown, hts, hK, hN, hxs, hz0, hX, hbl⟩ := C
  have hts := dr_words hts d0
  have hown : (s.setDrawn d0).vm.findClass RL = some m.cls := hown
  have hX : va_X b L xs (s.setDrawn d0) s.heap := hX
  have hK : va_K D vwCl (tysK cI cJ cZ cO) (s.setDrawn d0) := hK
  have hN : NW (s.setDrawn d0) := NW.same (u := s) (U := s.setDrawn d0) rfl hN
  have hxs : XS (s.setDrawn d0) := XS.same (u := s) (U := s.setDrawn d0) rfl hxs
  have hz0 : ZS (fun q => s.heap.size ≤ q) (s.setDrawn d0) s.heap := hz0.moved (U := s.setDrawn d0) (Vm.Alike.refl s.vm)
  have hbA : ¬ (fun q : Nat => s.heap.size ≤ q) b := Nat.not_le.mpr hbl
  have hA : ∀ q : Nat, s.heap.size ≤ q → (fun q : Nat => s.heap.size ≤ q) q := fun _ h => h
  obtain ⟨a, bt, f, cf, E, fb, cb, eb, s0, sc, S0, S1, ma, tw, as, sl, se, sv, ov, rfl, rfl, hg, ha, hs0, hs1⟩ := hI

  refine lv_aload_n hx hb dL_law_365 rfl (lv_at hl 1 rfl) ?_
  refine lv_aload_n hx hb dL_law_366 rfl (lv_at hl 0 rfl) ?_
  refine lv_iload hx hb dL_law_367 (lv_at hl 4 rfl) ?_
  refine lv_iconst (v := 1) hx hb dL_law_369 (by decide) ?_
  refine lv_iadd hx hb dL_law_370 ?_
  refine r_scr hx hb hX hbl hbA hS (i := i + 1) (by omega) hL (nI_1 i) dL_law_371 ?_
  refine lv_aload_n hx hb dL_law_372 rfl (lv_at hl 0 rfl) ?_
  refine lv_iload hx hb dL_law_373 (lv_at hl 4 rfl) ?_
  refine lv_iconst (v := 2) hx hb dL_law_375 (by decide) ?_
  refine lv_iadd hx hb dL_law_376 ?_
  refine r_scr hx hb hX hbl hbA hS (i := i + 2) (by omega) hL (nI_add i 2) dL_law_377 ?_
  obtain ⟨p0, e0⟩ : ∃ x, xs (i + 1) = x := ⟨_, rfl⟩
  obtain ⟨p1, e1⟩ : ∃ x, xs (i + 2) = x := ⟨_, rfl⟩
  rw [e0, e1]
  refine callH (hh := _) (As := [.ref g0, .int p0, .int p1]) (rest := []) ⟨hx, hb, hml, hown, hts⟩ (hL_setLoop l D cI cJ cZ cO g0 p0 p1 _ rfl (by decide) (giC g0 (a 0) (bt 0) s0 :: simW cI a f cf E) (fun (_ : Unit) => giC g0 (a 0) (bt 0) s0 :: simW cI a (a_h1_X7_setLoop f p0 p1) cf E) (v_h0_thrown_X7_setLoop p0 p1) _ rfl (by unfold v_h0_thrown_X7_setLoop; (repeat' split) <;> first | exact Or.inl rfl | exact Or.inr rfl) (wrX6_setLoop l hlt D cI cJ cZ cO g0 (bt 0) s0 a f cf E p0 p1)) (vx_cwSW 3 hts gL_law_L_setLoop rfl rfl rfl (by decide +kernel) ⟨by show 7 + 1 ≤ R.frames; omega, by show 8 + (4 + 11) + 230 ≤ R.locals; omega⟩) hK hN hxs hz0 (P_perm (pm_1 _ _ _ _ _ _ _) hP) (D_perm (pm_1 _ _ _ _ _ _ _) hD) hS hA rfl rfl hl.1 (Nat.le_of_ble_eq_true rfl) dL_law_378 ⟨by show cells + 1 ≤ R.cells; omega, by show slots + 6 ≤ R.slots; omega⟩ (fun u H locs hP hD hS => ?_)
  replace hP := P_perm (pm_1 (giC g0 (a 0) (bt 0) s0) (scC cO s0 sc) (ocC cJ o ov) (simW cI a (a_h1_X7_setLoop f p0 p1) cf E) (simW cI bt fb cb eb) (S0 ++ S1) (mdW cI cJ cZ ma E tw f as sl se sv)).symm hP
  replace hD := D_perm (pm_1 (giC g0 (a 0) (bt 0) s0) (scC cO s0 sc) (ocC cJ o ov) (simW cI a (a_h1_X7_setLoop f p0 p1) cf E) (simW cI bt fb cb eb) (S0 ++ S1) (mdW cI cJ cZ ma E tw f as sl se sv)).symm hD
  refine lv_istore (lv' := (5, .int (v_h0_thrown_X7_setLoop p0 p1)) :: lvL b g0 (ma 0) o i) hx hb dL_law_381 hl (by decide) rfl (fun ls hl => ?_)
  refine lv_aload_n hx hb dL_law_383 rfl (lv_at hl 3 rfl) ?_
  refine lv_aload_n hx hb dL_law_384 rfl (lv_at hl 1 rfl) ?_
  refine lv_iload hx hb dL_law_385 (lv_at hl 5 rfl) ?_
  refine lv_iconst (v := 1) hx hb dL_law_387 (by decide) ?_
  refine lv_iadd hx hb dL_law_388 ?_
  refine r_scr hx hb hX hbl hbA hS (i := i + 1) (by omega) hL (nI_1 i) dL_law_389 ?_
  refine lv_aload_n hx hb dL_law_390 rfl (lv_at hl 1 rfl) ?_
  refine lv_iload hx hb dL_law_391 (lv_at hl 5 rfl) ?_
  refine lv_iconst (v := 2) hx hb dL_law_393 (by decide) ?_
  refine lv_iadd hx hb dL_law_394 ?_
  refine r_scr hx hb hX hbl hbA hS (i := i + 2) (by omega) hL (nI_add i 2) dL_law_395 ?_
  rw [e0, e1]
  refine callM_v (As := [.int p0, .int p1]) (rest := []) ⟨hx, hb, hml, hown, hts⟩ (mX7_setLoop l D cI cJ cZ cO (ma 0) (ma 1) (ma 2) (ma 3) (ma 4) (ma 5) E tw f p0 p1) (cwV 2 hts gL_law_X7_setLoop rfl rfl rfl (by decide +kernel) ⟨by show 1 + 1 ≤ R.frames; omega, by show 8 + (3 + 11) + 22 ≤ R.locals; omega⟩) hK hN (P_perm (pm_7 _ _ _ _ _ _ _ _ _) hP) (D_perm (pm_7 _ _ _ _ _ _ _ _ _) hD) hS hA 7 0 rfl rfl rfl rfl rfl hl.1 (Nat.le_of_ble_eq_true rfl) dL_law_396 ⟨by show cells + 1 + 0 ≤ R.cells; omega, by show slots + 6 + 0 ≤ R.slots; omega⟩ (fun u H locs hP hD hS => ?_)
  replace hP := P_perm (pm_7 (giC g0 (a 0) (bt 0) s0) (scC cO s0 sc) (ocC cJ o ov) _ _ (simW cI a (a_h1_X7_setLoop f p0 p1) cf E) (simW cI bt fb cb eb) (S0 ++ S1) _).symm hP
  replace hD := D_perm (pm_7 (giC g0 (a 0) (bt 0) s0) (scC cO s0 sc) (ocC cJ o ov) _ _ (simW cI a (a_h1_X7_setLoop f p0 p1) cf E) (simW cI bt fb cb eb) (S0 ++ S1) _).symm hD
  refine lv_aload_n hx hb dL_law_399 rfl (lv_at hl 3 rfl) ?_
  refine callM_i (As := []) (rest := []) ⟨hx, hb, hml, hown, hts⟩ (mX7_thrown l D cI cJ cZ cO (ma 0) (ma 1) (ma 2) (ma 3) (ma 4) (ma 5) E (v_h0_thrown_X7_setLoop p0 p1)) (cwV 0 hts gL_law_X7_thrown rfl rfl rfl (by decide +kernel) ⟨by show 0 + 1 ≤ R.frames; omega, by show 8 + (1 + 11) + 0 ≤ R.locals; omega⟩) hK hN (P_perm (pm_8 _ _ _ _ _ _ _ _) hP) (D_perm (pm_8 _ _ _ _ _ _ _ _) hD) hS hA 7 0 rfl rfl rfl rfl rfl hl.1 (Nat.le_of_ble_eq_true rfl) dL_law_400 ⟨by show cells + 1 + 0 + 0 ≤ R.cells; omega, by show slots + 6 + 0 + 0 ≤ R.slots; omega⟩ (fun H locs hP hD hS => ?_)
  replace hP := P_perm (pm_8 (giC g0 (a 0) (bt 0) s0) (scC cO s0 sc) (ocC cJ o ov) _ (simW cI a (a_h1_X7_setLoop f p0 p1) cf E) (simW cI bt fb cb eb) (S0 ++ S1) _).symm hP
  replace hD := D_perm (pm_8 (giC g0 (a 0) (bt 0) s0) (scC cO s0 sc) (ocC cJ o ov) _ (simW cI a (a_h1_X7_setLoop f p0 p1) cf E) (simW cI bt fb cb eb) (S0 ++ S1) _).symm hD
  refine lv_iload hx hb dL_law_403 (lv_at hl 0 rfl) ?_
  refine lv_icmp_eq (tgt := 410) hx hb dL_law_405 (by decide) (fun _ => ?_) (fun h => absurd rfl h)
  refine lv_goto (tgt := 1414) hx hb dL_law_410 (by decide) ?_
  refine W.widen (k := cells + 20) (n := slots + 400) (by show cells + 1 + 0 + 0 ≤ cells + 20; omega) (by show slots + 6 + 0 + 0 ≤ slots + 400; omega) ?_
  have kp := kp_setLoop (p0 := p0) (p1 := p1) hg ha
  exact K _ H locs d0 ls ⟨a, bt, _, _, _, fb, cb, eb, s0, sc, S0, S1, ma, _, as, sl, se, sv, ov, rfl, rfl, kp.1.up (by omega), kp.2, hs0.up (by omega), hs1.up (by omega)⟩ hP hD hS hd0 (lv_sub hl [1, 2, 3, 4, 5] rfl)

set_option maxHeartbeats 4000000 in
set_option maxRecDepth 100000 in
theorem kc_setLock {D : va_G} {cI cJ cZ cO : ClassId} {b L g0 m0 o i B : Nat} {xs : Nat → Int32} {W1 : va_W} {d0 : Drawn} {ls : Array Slot} (hlt : l.stackTraces = false) (C : LC p s m args c D cI cJ cZ cO b L xs) (hL : L ≤ 2560) (hi : i + 5 ≤ L) (hR : 10 ≤ R.frames ∧ 376 ≤ R.locals) (hc : cells + 20 ≤ R.cells ∧ slots + 400 ≤ R.slots)
    (hI : LI cI cJ cZ cO g0 m0 o B W1) (hP : va_P D vwCl W1 H) (hD : va_D (fun q => s.heap.size ≤ q) W1) (hS : va_S (fun q => s.heap.size ≤ q) s.heap H locs) (hd0 : s.drawn.sameBut d0 lw_cs) (hl : lv_has ls 9 (lvL b g0 m0 o i))
    (K : KN p l e R s m args below meth c D cI cJ cZ cO Q b g0 m0 o i B cells slots) : W p l e R (s.setDrawn d0) m args below meth c H locs cells slots Q (F0 m 413 ls []) := by
  obtain ⟨hx, hb, hml, hown, hts, hK, hN, hxs, hz0, hX, hbl⟩ := C
  have hts := dr_words hts d0
  have hown : (s.setDrawn d0).vm.findClass RL = some m.cls := hown
  have hX : va_X b L xs (s.setDrawn d0) s.heap := hX
  have hK : va_K D vwCl (tysK cI cJ cZ cO) (s.setDrawn d0) := hK
  have hN : NW (s.setDrawn d0) := NW.same (u := s) (U := s.setDrawn d0) rfl hN
  have hxs : XS (s.setDrawn d0) := XS.same (u := s) (U := s.setDrawn d0) rfl hxs
  have hz0 : ZS (fun q => s.heap.size ≤ q) (s.setDrawn d0) s.heap := hz0.moved (U := s.setDrawn d0) (Vm.Alike.refl s.vm)
  have hbA : ¬ (fun q : Nat => s.heap.size ≤ q) b := Nat.not_le.mpr hbl
  have hA : ∀ q : Nat, s.heap.size ≤ q → (fun q : Nat => s.heap.size ≤ q) q := fun _ h => h
  obtain ⟨a, bt, f, cf, E, fb, cb, eb, s0, sc, S0, S1, ma, tw, as, sl, se, sv, ov, rfl, rfl, hg, ha, hs0, hs1⟩ := hI

  refine lv_aload_n hx hb dL_law_413 rfl (lv_at hl 1 rfl) ?_
  refine lv_aload_n hx hb dL_law_414 rfl (lv_at hl 0 rfl) ?_
  refine lv_iload hx hb dL_law_415 (lv_at hl 4 rfl) ?_
  refine lv_iconst (v := 1) hx hb dL_law_417 (by decide) ?_
  refine lv_iadd hx hb dL_law_418 ?_
  refine r_scr hx hb hX hbl hbA hS (i := i + 1) (by omega) hL (nI_1 i) dL_law_419 ?_
  refine lv_aload_n hx hb dL_law_420 rfl (lv_at hl 0 rfl) ?_
  refine lv_iload hx hb dL_law_421 (lv_at hl 4 rfl) ?_
  refine lv_iconst (v := 2) hx hb dL_law_423 (by decide) ?_
  refine lv_iadd hx hb dL_law_424 ?_
  refine r_scr hx hb hX hbl hbA hS (i := i + 2) (by omega) hL (nI_add i 2) dL_law_425 ?_
  obtain ⟨p0, e0⟩ : ∃ x, xs (i + 1) = x := ⟨_, rfl⟩
  obtain ⟨p1, e1⟩ : ∃ x, xs (i + 2) = x := ⟨_, rfl⟩
  rw [e0, e1]
  refine callH (hh := _) (As := [.ref g0, .int p0, .int p1]) (rest := []) ⟨hx, hb, hml, hown, hts⟩ (hL_setLock l D cI cJ cZ cO g0 p0 p1 _ rfl (by decide) (giC g0 (a 0) (bt 0) s0 :: simW cI a f cf E) (fun (_ : Unit) => giC g0 (a 0) (bt 0) s0 :: simW cI a (a_h1_X7_setLock f p0 p1) cf E) (v_h0_thrown_X7_setLock p0 p1) _ rfl (by unfold v_h0_thrown_X7_setLock; (repeat' split) <;> first | exact Or.inl rfl | exact Or.inr rfl) (wrX6_setLock l hlt D cI cJ cZ cO g0 (bt 0) s0 a f cf E p0 p1)) (vx_cwSW 3 hts gL_law_L_setLock rfl rfl rfl (by decide +kernel) ⟨by show 7 + 1 ≤ R.frames; omega, by show 8 + (4 + 11) + 230 ≤ R.locals; omega⟩) hK hN hxs hz0 (P_perm (pm_1 _ _ _ _ _ _ _) hP) (D_perm (pm_1 _ _ _ _ _ _ _) hD) hS hA rfl rfl hl.1 (Nat.le_of_ble_eq_true rfl) dL_law_426 ⟨by show cells + 1 ≤ R.cells; omega, by show slots + 6 ≤ R.slots; omega⟩ (fun u H locs hP hD hS => ?_)
  replace hP := P_perm (pm_1 (giC g0 (a 0) (bt 0) s0) (scC cO s0 sc) (ocC cJ o ov) (simW cI a (a_h1_X7_setLock f p0 p1) cf E) (simW cI bt fb cb eb) (S0 ++ S1) (mdW cI cJ cZ ma E tw f as sl se sv)).symm hP
  replace hD := D_perm (pm_1 (giC g0 (a 0) (bt 0) s0) (scC cO s0 sc) (ocC cJ o ov) (simW cI a (a_h1_X7_setLock f p0 p1) cf E) (simW cI bt fb cb eb) (S0 ++ S1) (mdW cI cJ cZ ma E tw f as sl se sv)).symm hD
  refine lv_istore (lv' := (5, .int (v_h0_thrown_X7_setLock p0 p1)) :: lvL b g0 (ma 0) o i) hx hb dL_law_429 hl (by decide) rfl (fun ls hl => ?_)
  refine lv_aload_n hx hb dL_law_431 rfl (lv_at hl 3 rfl) ?_
  refine lv_aload_n hx hb dL_law_432 rfl (lv_at hl 1 rfl) ?_
  refine lv_iload hx hb dL_law_433 (lv_at hl 5 rfl) ?_
  refine lv_iconst (v := 1) hx hb dL_law_435 (by decide) ?_
  refine lv_iadd hx hb dL_law_436 ?_
  refine r_scr hx hb hX hbl hbA hS (i := i + 1) (by omega) hL (nI_1 i) dL_law_437 ?_
  refine lv_aload_n hx hb dL_law_438 rfl (lv_at hl 1 rfl) ?_
  refine lv_iload hx hb dL_law_439 (lv_at hl 5 rfl) ?_
  refine lv_iconst (v := 2) hx hb dL_law_441 (by decide) ?_
  refine lv_iadd hx hb dL_law_442 ?_
  refine r_scr hx hb hX hbl hbA hS (i := i + 2) (by omega) hL (nI_add i 2) dL_law_443 ?_
  rw [e0, e1]
  refine callM_v (As := [.int p0, .int p1]) (rest := []) ⟨hx, hb, hml, hown, hts⟩ (mX7_setLock l D cI cJ cZ cO (ma 0) (ma 1) (ma 2) (ma 3) (ma 4) (ma 5) E tw f p0 p1) (cwV 2 hts gL_law_X7_setLock rfl rfl rfl (by decide +kernel) ⟨by show 1 + 1 ≤ R.frames; omega, by show 8 + (3 + 11) + 22 ≤ R.locals; omega⟩) hK hN (P_perm (pm_7 _ _ _ _ _ _ _ _ _) hP) (D_perm (pm_7 _ _ _ _ _ _ _ _ _) hD) hS hA 7 0 rfl rfl rfl rfl rfl hl.1 (Nat.le_of_ble_eq_true rfl) dL_law_444 ⟨by show cells + 1 + 0 ≤ R.cells; omega, by show slots + 6 + 0 ≤ R.slots; omega⟩ (fun u H locs hP hD hS => ?_)
  replace hP := P_perm (pm_7 (giC g0 (a 0) (bt 0) s0) (scC cO s0 sc) (ocC cJ o ov) _ _ (simW cI a (a_h1_X7_setLock f p0 p1) cf E) (simW cI bt fb cb eb) (S0 ++ S1) _).symm hP
  replace hD := D_perm (pm_7 (giC g0 (a 0) (bt 0) s0) (scC cO s0 sc) (ocC cJ o ov) _ _ (simW cI a (a_h1_X7_setLock f p0 p1) cf E) (simW cI bt fb cb eb) (S0 ++ S1) _).symm hD
  refine lv_aload_n hx hb dL_law_447 rfl (lv_at hl 3 rfl) ?_
  refine callM_i (As := []) (rest := []) ⟨hx, hb, hml, hown, hts⟩ (mX7_thrown l D cI cJ cZ cO (ma 0) (ma 1) (ma 2) (ma 3) (ma 4) (ma 5) E (v_h0_thrown_X7_setLock p0 p1)) (cwV 0 hts gL_law_X7_thrown rfl rfl rfl (by decide +kernel) ⟨by show 0 + 1 ≤ R.frames; omega, by show 8 + (1 + 11) + 0 ≤ R.locals; omega⟩) hK hN (P_perm (pm_8 _ _ _ _ _ _ _ _) hP) (D_perm (pm_8 _ _ _ _ _ _ _ _) hD) hS hA 7 0 rfl rfl rfl rfl rfl hl.1 (Nat.le_of_ble_eq_true rfl) dL_law_448 ⟨by show cells + 1 + 0 + 0 ≤ R.cells; omega, by show slots + 6 + 0 + 0 ≤ R.slots; omega⟩ (fun H locs hP hD hS => ?_)
  replace hP := P_perm (pm_8 (giC g0 (a 0) (bt 0) s0) (scC cO s0 sc) (ocC cJ o ov) _ (simW cI a (a_h1_X7_setLock f p0 p1) cf E) (simW cI bt fb cb eb) (S0 ++ S1) _).symm hP
  replace hD := D_perm (pm_8 (giC g0 (a 0) (bt 0) s0) (scC cO s0 sc) (ocC cJ o ov) _ (simW cI a (a_h1_X7_setLock f p0 p1) cf E) (simW cI bt fb cb eb) (S0 ++ S1) _).symm hD
  refine lv_iload hx hb dL_law_451 (lv_at hl 0 rfl) ?_
  refine lv_icmp_eq (tgt := 458) hx hb dL_law_453 (by decide) (fun _ => ?_) (fun h => absurd rfl h)
  refine lv_goto (tgt := 1414) hx hb dL_law_458 (by decide) ?_
  refine W.widen (k := cells + 20) (n := slots + 400) (by show cells + 1 + 0 + 0 ≤ cells + 20; omega) (by show slots + 6 + 0 + 0 ≤ slots + 400; omega) ?_
  have kp := kp_setLock (p0 := p0) (p1 := p1) hg ha
  exact K _ H locs d0 ls ⟨a, bt, _, _, _, fb, cb, eb, s0, sc, S0, S1, ma, _, as, sl, se, sv, ov, rfl, rfl, kp.1.up (by omega), kp.2, hs0.up (by omega), hs1.up (by omega)⟩ hP hD hS hd0 (lv_sub hl [1, 2, 3, 4, 5] rfl)

set_option maxHeartbeats 4000000 in
set_option maxRecDepth 100000 in
theorem kc_setWindow {D : va_G} {cI cJ cZ cO : ClassId} {b L g0 m0 o i B : Nat} {xs : Nat → Int32} {W1 : va_W} {d0 : Drawn} {ls : Array Slot} (hlt : l.stackTraces = false) (C : LC p s m args c D cI cJ cZ cO b L xs) (hL : L ≤ 2560) (hi : i + 5 ≤ L) (hR : 10 ≤ R.frames ∧ 376 ≤ R.locals) (hc : cells + 20 ≤ R.cells ∧ slots + 400 ≤ R.slots)
    (hI : LI cI cJ cZ cO g0 m0 o B W1) (hP : va_P D vwCl W1 H) (hD : va_D (fun q => s.heap.size ≤ q) W1) (hS : va_S (fun q => s.heap.size ≤ q) s.heap H locs) (hd0 : s.drawn.sameBut d0 lw_cs) (hl : lv_has ls 9 (lvL b g0 m0 o i))
    (K : KN p l e R s m args below meth c D cI cJ cZ cO Q b g0 m0 o i B cells slots) : W p l e R (s.setDrawn d0) m args below meth c H locs cells slots Q (F0 m 461 ls []) := by
  obtain ⟨hx, hb, hml, hown, hts, hK, hN, hxs, hz0, hX, hbl⟩ := C
  have hts := dr_words hts d0
  have hown : (s.setDrawn d0).vm.findClass RL = some m.cls := hown
  have hX : va_X b L xs (s.setDrawn d0) s.heap := hX
  have hK : va_K D vwCl (tysK cI cJ cZ cO) (s.setDrawn d0) := hK
  have hN : NW (s.setDrawn d0) := NW.same (u := s) (U := s.setDrawn d0) rfl hN
  have hxs : XS (s.setDrawn d0) := XS.same (u := s) (U := s.setDrawn d0) rfl hxs
  have hz0 : ZS (fun q => s.heap.size ≤ q) (s.setDrawn d0) s.heap := hz0.moved (U := s.setDrawn d0) (Vm.Alike.refl s.vm)
  have hbA : ¬ (fun q : Nat => s.heap.size ≤ q) b := Nat.not_le.mpr hbl
  have hA : ∀ q : Nat, s.heap.size ≤ q → (fun q : Nat => s.heap.size ≤ q) q := fun _ h => h
  obtain ⟨a, bt, f, cf, E, fb, cb, eb, s0, sc, S0, S1, ma, tw, as, sl, se, sv, ov, rfl, rfl, hg, ha, hs0, hs1⟩ := hI

  refine lv_aload_n hx hb dL_law_461 rfl (lv_at hl 1 rfl) ?_
  refine lv_aload_n hx hb dL_law_462 rfl (lv_at hl 0 rfl) ?_
  refine lv_iload hx hb dL_law_463 (lv_at hl 4 rfl) ?_
  refine lv_iconst (v := 1) hx hb dL_law_465 (by decide) ?_
  refine lv_iadd hx hb dL_law_466 ?_
  refine r_scr hx hb hX hbl hbA hS (i := i + 1) (by omega) hL (nI_1 i) dL_law_467 ?_
  refine lv_aload_n hx hb dL_law_468 rfl (lv_at hl 0 rfl) ?_
  refine lv_iload hx hb dL_law_469 (lv_at hl 4 rfl) ?_
  refine lv_iconst (v := 2) hx hb dL_law_471 (by decide) ?_
  refine lv_iadd hx hb dL_law_472 ?_
  refine r_scr hx hb hX hbl hbA hS (i := i + 2) (by omega) hL (nI_add i 2) dL_law_473 ?_
  refine lv_aload_n hx hb dL_law_474 rfl (lv_at hl 0 rfl) ?_
  refine lv_iload hx hb dL_law_475 (lv_at hl 4 rfl) ?_
  refine lv_iconst (v := 3) hx hb dL_law_477 (by decide) ?_
  refine lv_iadd hx hb dL_law_478 ?_
  refine r_scr hx hb hX hbl hbA hS (i := i + 3) (by omega) hL (nI_add i 3) dL_law_479 ?_
  refine lv_aload_n hx hb dL_law_480 rfl (lv_at hl 0 rfl) ?_
  refine lv_iload hx hb dL_law_481 (lv_at hl 4 rfl) ?_
  refine lv_iconst (v := 4) hx hb dL_law_483 (by decide) ?_
  refine lv_iadd hx hb dL_law_484 ?_
  refine r_scr hx hb hX hbl hbA hS (i := i + 4) (by omega) hL (nI_add i 4) dL_law_485 ?_
  obtain ⟨p0, e0⟩ : ∃ x, xs (i + 1) = x := ⟨_, rfl⟩
  obtain ⟨p1, e1⟩ : ∃ x, xs (i + 2) = x := ⟨_, rfl⟩
  obtain ⟨p2, e2⟩ : ∃ x, xs (i + 3) = x := ⟨_, rfl⟩
  obtain ⟨p3, e3⟩ : ∃ x, xs (i + 4) = x := ⟨_, rfl⟩
  rw [e0, e1, e2, e3]
  refine callH (hh := _) (As := [.ref g0, .int p0, .int p1, .int p2, .int p3]) (rest := []) ⟨hx, hb, hml, hown, hts⟩ (hL_setWindow l D cI cJ cZ cO g0 p0 p1 p2 p3 _ rfl (by decide) (giC g0 (a 0) (bt 0) s0 :: simW cI a f cf E) (fun (_ : Unit) => giC g0 (a 0) (bt 0) s0 :: simW cI a (a_h1_X7_setWindow f p0 p1 p2 p3) cf E) (v_h0_thrown_X7_setWindow p0 p1 p2 p3) _ rfl (by unfold v_h0_thrown_X7_setWindow; (repeat' split) <;> first | exact Or.inl rfl | exact Or.inr rfl) (wrX6_setWindow l hlt D cI cJ cZ cO g0 (bt 0) s0 a f cf E p0 p1 p2 p3)) (vx_cwSW 5 hts gL_law_L_setWindow rfl rfl rfl (by decide +kernel) ⟨by show 7 + 1 ≤ R.frames; omega, by show 8 + (6 + 11) + 230 ≤ R.locals; omega⟩) hK hN hxs hz0 (P_perm (pm_1 _ _ _ _ _ _ _) hP) (D_perm (pm_1 _ _ _ _ _ _ _) hD) hS hA rfl rfl hl.1 (Nat.le_of_ble_eq_true rfl) dL_law_486 ⟨by show cells + 1 ≤ R.cells; omega, by show slots + 6 ≤ R.slots; omega⟩ (fun u H locs hP hD hS => ?_)
  replace hP := P_perm (pm_1 (giC g0 (a 0) (bt 0) s0) (scC cO s0 sc) (ocC cJ o ov) (simW cI a (a_h1_X7_setWindow f p0 p1 p2 p3) cf E) (simW cI bt fb cb eb) (S0 ++ S1) (mdW cI cJ cZ ma E tw f as sl se sv)).symm hP
  replace hD := D_perm (pm_1 (giC g0 (a 0) (bt 0) s0) (scC cO s0 sc) (ocC cJ o ov) (simW cI a (a_h1_X7_setWindow f p0 p1 p2 p3) cf E) (simW cI bt fb cb eb) (S0 ++ S1) (mdW cI cJ cZ ma E tw f as sl se sv)).symm hD
  refine lv_istore (lv' := (5, .int (v_h0_thrown_X7_setWindow p0 p1 p2 p3)) :: lvL b g0 (ma 0) o i) hx hb dL_law_489 hl (by decide) rfl (fun ls hl => ?_)
  refine lv_aload_n hx hb dL_law_491 rfl (lv_at hl 3 rfl) ?_
  refine lv_aload_n hx hb dL_law_492 rfl (lv_at hl 1 rfl) ?_
  refine lv_iload hx hb dL_law_493 (lv_at hl 5 rfl) ?_
  refine lv_iconst (v := 1) hx hb dL_law_495 (by decide) ?_
  refine lv_iadd hx hb dL_law_496 ?_
  refine r_scr hx hb hX hbl hbA hS (i := i + 1) (by omega) hL (nI_1 i) dL_law_497 ?_
  refine lv_aload_n hx hb dL_law_498 rfl (lv_at hl 1 rfl) ?_
  refine lv_iload hx hb dL_law_499 (lv_at hl 5 rfl) ?_
  refine lv_iconst (v := 2) hx hb dL_law_501 (by decide) ?_
  refine lv_iadd hx hb dL_law_502 ?_
  refine r_scr hx hb hX hbl hbA hS (i := i + 2) (by omega) hL (nI_add i 2) dL_law_503 ?_
  refine lv_aload_n hx hb dL_law_504 rfl (lv_at hl 1 rfl) ?_
  refine lv_iload hx hb dL_law_505 (lv_at hl 5 rfl) ?_
  refine lv_iconst (v := 3) hx hb dL_law_507 (by decide) ?_
  refine lv_iadd hx hb dL_law_508 ?_
  refine r_scr hx hb hX hbl hbA hS (i := i + 3) (by omega) hL (nI_add i 3) dL_law_509 ?_
  refine lv_aload_n hx hb dL_law_510 rfl (lv_at hl 1 rfl) ?_
  refine lv_iload hx hb dL_law_511 (lv_at hl 5 rfl) ?_
  refine lv_iconst (v := 4) hx hb dL_law_513 (by decide) ?_
  refine lv_iadd hx hb dL_law_514 ?_
  refine r_scr hx hb hX hbl hbA hS (i := i + 4) (by omega) hL (nI_add i 4) dL_law_515 ?_
  rw [e0, e1, e2, e3]
  refine callM_v (As := [.int p0, .int p1, .int p2, .int p3]) (rest := []) ⟨hx, hb, hml, hown, hts⟩ (mX7_setWindow l D cI cJ cZ cO (ma 0) (ma 1) (ma 2) (ma 3) (ma 4) (ma 5) E tw f p0 p1 p2 p3) (cwV 4 hts gL_law_X7_setWindow rfl rfl rfl (by decide +kernel) ⟨by show 1 + 1 ≤ R.frames; omega, by show 8 + (6 + 11) + 22 ≤ R.locals; omega⟩) hK hN (P_perm (pm_7 _ _ _ _ _ _ _ _ _) hP) (D_perm (pm_7 _ _ _ _ _ _ _ _ _) hD) hS hA 7 0 rfl rfl rfl rfl rfl hl.1 (Nat.le_of_ble_eq_true rfl) dL_law_516 ⟨by show cells + 1 + 0 ≤ R.cells; omega, by show slots + 6 + 0 ≤ R.slots; omega⟩ (fun u H locs hP hD hS => ?_)
  replace hP := P_perm (pm_7 (giC g0 (a 0) (bt 0) s0) (scC cO s0 sc) (ocC cJ o ov) _ _ (simW cI a (a_h1_X7_setWindow f p0 p1 p2 p3) cf E) (simW cI bt fb cb eb) (S0 ++ S1) _).symm hP
  replace hD := D_perm (pm_7 (giC g0 (a 0) (bt 0) s0) (scC cO s0 sc) (ocC cJ o ov) _ _ (simW cI a (a_h1_X7_setWindow f p0 p1 p2 p3) cf E) (simW cI bt fb cb eb) (S0 ++ S1) _).symm hD
  refine lv_aload_n hx hb dL_law_519 rfl (lv_at hl 3 rfl) ?_
  refine callM_i (As := []) (rest := []) ⟨hx, hb, hml, hown, hts⟩ (mX7_thrown l D cI cJ cZ cO (ma 0) (ma 1) (ma 2) (ma 3) (ma 4) (ma 5) E (v_h0_thrown_X7_setWindow p0 p1 p2 p3)) (cwV 0 hts gL_law_X7_thrown rfl rfl rfl (by decide +kernel) ⟨by show 0 + 1 ≤ R.frames; omega, by show 8 + (1 + 11) + 0 ≤ R.locals; omega⟩) hK hN (P_perm (pm_8 _ _ _ _ _ _ _ _) hP) (D_perm (pm_8 _ _ _ _ _ _ _ _) hD) hS hA 7 0 rfl rfl rfl rfl rfl hl.1 (Nat.le_of_ble_eq_true rfl) dL_law_520 ⟨by show cells + 1 + 0 + 0 ≤ R.cells; omega, by show slots + 6 + 0 + 0 ≤ R.slots; omega⟩ (fun H locs hP hD hS => ?_)
  replace hP := P_perm (pm_8 (giC g0 (a 0) (bt 0) s0) (scC cO s0 sc) (ocC cJ o ov) _ (simW cI a (a_h1_X7_setWindow f p0 p1 p2 p3) cf E) (simW cI bt fb cb eb) (S0 ++ S1) _).symm hP
  replace hD := D_perm (pm_8 (giC g0 (a 0) (bt 0) s0) (scC cO s0 sc) (ocC cJ o ov) _ (simW cI a (a_h1_X7_setWindow f p0 p1 p2 p3) cf E) (simW cI bt fb cb eb) (S0 ++ S1) _).symm hD
  refine lv_iload hx hb dL_law_523 (lv_at hl 0 rfl) ?_
  refine lv_icmp_eq (tgt := 530) hx hb dL_law_525 (by decide) (fun _ => ?_) (fun h => absurd rfl h)
  refine lv_goto (tgt := 1414) hx hb dL_law_530 (by decide) ?_
  refine W.widen (k := cells + 20) (n := slots + 400) (by show cells + 1 + 0 + 0 ≤ cells + 20; omega) (by show slots + 6 + 0 + 0 ≤ slots + 400; omega) ?_
  have kp := kp_setWindow (p0 := p0) (p1 := p1) (p2 := p2) (p3 := p3) hg ha
  exact K _ H locs d0 ls ⟨a, bt, _, _, _, fb, cb, eb, s0, sc, S0, S1, ma, _, as, sl, se, sv, ov, rfl, rfl, kp.1.up (by omega), kp.2, hs0.up (by omega), hs1.up (by omega)⟩ hP hD hS hd0 (lv_sub hl [1, 2, 3, 4, 5] rfl)

set_option maxHeartbeats 4000000 in
set_option maxRecDepth 100000 in
theorem kc_setPower {D : va_G} {cI cJ cZ cO : ClassId} {b L g0 m0 o i B : Nat} {xs : Nat → Int32} {W1 : va_W} {d0 : Drawn} {ls : Array Slot} (hlt : l.stackTraces = false) (C : LC p s m args c D cI cJ cZ cO b L xs) (hL : L ≤ 2560) (hi : i + 5 ≤ L) (hR : 10 ≤ R.frames ∧ 376 ≤ R.locals) (hc : cells + 20 ≤ R.cells ∧ slots + 400 ≤ R.slots)
    (hI : LI cI cJ cZ cO g0 m0 o B W1) (hP : va_P D vwCl W1 H) (hD : va_D (fun q => s.heap.size ≤ q) W1) (hS : va_S (fun q => s.heap.size ≤ q) s.heap H locs) (hd0 : s.drawn.sameBut d0 lw_cs) (hl : lv_has ls 9 (lvL b g0 m0 o i))
    (K : KN p l e R s m args below meth c D cI cJ cZ cO Q b g0 m0 o i B cells slots) : W p l e R (s.setDrawn d0) m args below meth c H locs cells slots Q (F0 m 533 ls []) := by
  obtain ⟨hx, hb, hml, hown, hts, hK, hN, hxs, hz0, hX, hbl⟩ := C
  have hts := dr_words hts d0
  have hown : (s.setDrawn d0).vm.findClass RL = some m.cls := hown
  have hX : va_X b L xs (s.setDrawn d0) s.heap := hX
  have hK : va_K D vwCl (tysK cI cJ cZ cO) (s.setDrawn d0) := hK
  have hN : NW (s.setDrawn d0) := NW.same (u := s) (U := s.setDrawn d0) rfl hN
  have hxs : XS (s.setDrawn d0) := XS.same (u := s) (U := s.setDrawn d0) rfl hxs
  have hz0 : ZS (fun q => s.heap.size ≤ q) (s.setDrawn d0) s.heap := hz0.moved (U := s.setDrawn d0) (Vm.Alike.refl s.vm)
  have hbA : ¬ (fun q : Nat => s.heap.size ≤ q) b := Nat.not_le.mpr hbl
  have hA : ∀ q : Nat, s.heap.size ≤ q → (fun q : Nat => s.heap.size ≤ q) q := fun _ h => h
  obtain ⟨a, bt, f, cf, E, fb, cb, eb, s0, sc, S0, S1, ma, tw, as, sl, se, sv, ov, rfl, rfl, hg, ha, hs0, hs1⟩ := hI

  refine lv_aload_n hx hb dL_law_533 rfl (lv_at hl 1 rfl) ?_
  refine lv_aload_n hx hb dL_law_534 rfl (lv_at hl 0 rfl) ?_
  refine lv_iload hx hb dL_law_535 (lv_at hl 4 rfl) ?_
  refine lv_iconst (v := 1) hx hb dL_law_537 (by decide) ?_
  refine lv_iadd hx hb dL_law_538 ?_
  refine r_scr hx hb hX hbl hbA hS (i := i + 1) (by omega) hL (nI_1 i) dL_law_539 ?_
  refine lv_aload_n hx hb dL_law_540 rfl (lv_at hl 0 rfl) ?_
  refine lv_iload hx hb dL_law_541 (lv_at hl 4 rfl) ?_
  refine lv_iconst (v := 2) hx hb dL_law_543 (by decide) ?_
  refine lv_iadd hx hb dL_law_544 ?_
  refine r_scr hx hb hX hbl hbA hS (i := i + 2) (by omega) hL (nI_add i 2) dL_law_545 ?_
  refine lv_aload_n hx hb dL_law_546 rfl (lv_at hl 0 rfl) ?_
  refine lv_iload hx hb dL_law_547 (lv_at hl 4 rfl) ?_
  refine lv_iconst (v := 3) hx hb dL_law_549 (by decide) ?_
  refine lv_iadd hx hb dL_law_550 ?_
  refine r_scr hx hb hX hbl hbA hS (i := i + 3) (by omega) hL (nI_add i 3) dL_law_551 ?_
  obtain ⟨p0, e0⟩ : ∃ x, xs (i + 1) = x := ⟨_, rfl⟩
  obtain ⟨p1, e1⟩ : ∃ x, xs (i + 2) = x := ⟨_, rfl⟩
  obtain ⟨p2, e2⟩ : ∃ x, xs (i + 3) = x := ⟨_, rfl⟩
  rw [e0, e1, e2]
  refine callH (hh := _) (As := [.ref g0, .int p0, .int p1, .int p2]) (rest := []) ⟨hx, hb, hml, hown, hts⟩ (hL_setPower l D cI cJ cZ cO g0 p0 p1 p2 _ rfl (by decide) (giC g0 (a 0) (bt 0) s0 :: simW cI a f cf E) (fun (_ : Unit) => giC g0 (a 0) (bt 0) s0 :: simW cI a (a_h1_X7_setPower f p0 p1 p2) cf E) (v_h0_thrown_X7_setPower p0 p1 p2) _ rfl (by unfold v_h0_thrown_X7_setPower; (repeat' split) <;> first | exact Or.inl rfl | exact Or.inr rfl) (wrX6_setPower l hlt D cI cJ cZ cO g0 (bt 0) s0 a f cf E p0 p1 p2)) (vx_cwSW 4 hts gL_law_L_setPower rfl rfl rfl (by decide +kernel) ⟨by show 7 + 1 ≤ R.frames; omega, by show 8 + (5 + 11) + 230 ≤ R.locals; omega⟩) hK hN hxs hz0 (P_perm (pm_1 _ _ _ _ _ _ _) hP) (D_perm (pm_1 _ _ _ _ _ _ _) hD) hS hA rfl rfl hl.1 (Nat.le_of_ble_eq_true rfl) dL_law_552 ⟨by show cells + 1 ≤ R.cells; omega, by show slots + 6 ≤ R.slots; omega⟩ (fun u H locs hP hD hS => ?_)
  replace hP := P_perm (pm_1 (giC g0 (a 0) (bt 0) s0) (scC cO s0 sc) (ocC cJ o ov) (simW cI a (a_h1_X7_setPower f p0 p1 p2) cf E) (simW cI bt fb cb eb) (S0 ++ S1) (mdW cI cJ cZ ma E tw f as sl se sv)).symm hP
  replace hD := D_perm (pm_1 (giC g0 (a 0) (bt 0) s0) (scC cO s0 sc) (ocC cJ o ov) (simW cI a (a_h1_X7_setPower f p0 p1 p2) cf E) (simW cI bt fb cb eb) (S0 ++ S1) (mdW cI cJ cZ ma E tw f as sl se sv)).symm hD
  refine lv_istore (lv' := (5, .int (v_h0_thrown_X7_setPower p0 p1 p2)) :: lvL b g0 (ma 0) o i) hx hb dL_law_555 hl (by decide) rfl (fun ls hl => ?_)
  refine lv_aload_n hx hb dL_law_557 rfl (lv_at hl 3 rfl) ?_
  refine lv_aload_n hx hb dL_law_558 rfl (lv_at hl 1 rfl) ?_
  refine lv_iload hx hb dL_law_559 (lv_at hl 5 rfl) ?_
  refine lv_iconst (v := 1) hx hb dL_law_561 (by decide) ?_
  refine lv_iadd hx hb dL_law_562 ?_
  refine r_scr hx hb hX hbl hbA hS (i := i + 1) (by omega) hL (nI_1 i) dL_law_563 ?_
  refine lv_aload_n hx hb dL_law_564 rfl (lv_at hl 1 rfl) ?_
  refine lv_iload hx hb dL_law_565 (lv_at hl 5 rfl) ?_
  refine lv_iconst (v := 2) hx hb dL_law_567 (by decide) ?_
  refine lv_iadd hx hb dL_law_568 ?_
  refine r_scr hx hb hX hbl hbA hS (i := i + 2) (by omega) hL (nI_add i 2) dL_law_569 ?_
  refine lv_aload_n hx hb dL_law_570 rfl (lv_at hl 1 rfl) ?_
  refine lv_iload hx hb dL_law_571 (lv_at hl 5 rfl) ?_
  refine lv_iconst (v := 3) hx hb dL_law_573 (by decide) ?_
  refine lv_iadd hx hb dL_law_574 ?_
  refine r_scr hx hb hX hbl hbA hS (i := i + 3) (by omega) hL (nI_add i 3) dL_law_575 ?_
  rw [e0, e1, e2]
  refine callM_v (As := [.int p0, .int p1, .int p2]) (rest := []) ⟨hx, hb, hml, hown, hts⟩ (mX7_setPower l D cI cJ cZ cO (ma 0) (ma 1) (ma 2) (ma 3) (ma 4) (ma 5) E tw f p0 p1 p2) (cwV 3 hts gL_law_X7_setPower rfl rfl rfl (by decide +kernel) ⟨by show 1 + 1 ≤ R.frames; omega, by show 8 + (4 + 11) + 22 ≤ R.locals; omega⟩) hK hN (P_perm (pm_7 _ _ _ _ _ _ _ _ _) hP) (D_perm (pm_7 _ _ _ _ _ _ _ _ _) hD) hS hA 7 0 rfl rfl rfl rfl rfl hl.1 (Nat.le_of_ble_eq_true rfl) dL_law_576 ⟨by show cells + 1 + 0 ≤ R.cells; omega, by show slots + 6 + 0 ≤ R.slots; omega⟩ (fun u H locs hP hD hS => ?_)
  replace hP := P_perm (pm_7 (giC g0 (a 0) (bt 0) s0) (scC cO s0 sc) (ocC cJ o ov) _ _ (simW cI a (a_h1_X7_setPower f p0 p1 p2) cf E) (simW cI bt fb cb eb) (S0 ++ S1) _).symm hP
  replace hD := D_perm (pm_7 (giC g0 (a 0) (bt 0) s0) (scC cO s0 sc) (ocC cJ o ov) _ _ (simW cI a (a_h1_X7_setPower f p0 p1 p2) cf E) (simW cI bt fb cb eb) (S0 ++ S1) _).symm hD
  refine lv_aload_n hx hb dL_law_579 rfl (lv_at hl 3 rfl) ?_
  refine callM_i (As := []) (rest := []) ⟨hx, hb, hml, hown, hts⟩ (mX7_thrown l D cI cJ cZ cO (ma 0) (ma 1) (ma 2) (ma 3) (ma 4) (ma 5) E (v_h0_thrown_X7_setPower p0 p1 p2)) (cwV 0 hts gL_law_X7_thrown rfl rfl rfl (by decide +kernel) ⟨by show 0 + 1 ≤ R.frames; omega, by show 8 + (1 + 11) + 0 ≤ R.locals; omega⟩) hK hN (P_perm (pm_8 _ _ _ _ _ _ _ _) hP) (D_perm (pm_8 _ _ _ _ _ _ _ _) hD) hS hA 7 0 rfl rfl rfl rfl rfl hl.1 (Nat.le_of_ble_eq_true rfl) dL_law_580 ⟨by show cells + 1 + 0 + 0 ≤ R.cells; omega, by show slots + 6 + 0 + 0 ≤ R.slots; omega⟩ (fun H locs hP hD hS => ?_)
  replace hP := P_perm (pm_8 (giC g0 (a 0) (bt 0) s0) (scC cO s0 sc) (ocC cJ o ov) _ (simW cI a (a_h1_X7_setPower f p0 p1 p2) cf E) (simW cI bt fb cb eb) (S0 ++ S1) _).symm hP
  replace hD := D_perm (pm_8 (giC g0 (a 0) (bt 0) s0) (scC cO s0 sc) (ocC cJ o ov) _ (simW cI a (a_h1_X7_setPower f p0 p1 p2) cf E) (simW cI bt fb cb eb) (S0 ++ S1) _).symm hD
  refine lv_iload hx hb dL_law_583 (lv_at hl 0 rfl) ?_
  refine lv_icmp_eq (tgt := 590) hx hb dL_law_585 (by decide) (fun _ => ?_) (fun h => absurd rfl h)
  refine lv_goto (tgt := 1414) hx hb dL_law_590 (by decide) ?_
  refine W.widen (k := cells + 20) (n := slots + 400) (by show cells + 1 + 0 + 0 ≤ cells + 20; omega) (by show slots + 6 + 0 + 0 ≤ slots + 400; omega) ?_
  have kp := kp_setPower (p0 := p0) (p1 := p1) (p2 := p2) hg ha
  exact K _ H locs d0 ls ⟨a, bt, _, _, _, fb, cb, eb, s0, sc, S0, S1, ma, _, as, sl, se, sv, ov, rfl, rfl, kp.1.up (by omega), kp.2, hs0.up (by omega), hs1.up (by omega)⟩ hP hD hS hd0 (lv_sub hl [1, 2, 3, 4, 5] rfl)

set_option maxHeartbeats 4000000 in
set_option maxRecDepth 100000 in
theorem kc_setDrift {D : va_G} {cI cJ cZ cO : ClassId} {b L g0 m0 o i B : Nat} {xs : Nat → Int32} {W1 : va_W} {d0 : Drawn} {ls : Array Slot} (hlt : l.stackTraces = false) (C : LC p s m args c D cI cJ cZ cO b L xs) (hL : L ≤ 2560) (hi : i + 5 ≤ L) (hR : 10 ≤ R.frames ∧ 376 ≤ R.locals) (hc : cells + 20 ≤ R.cells ∧ slots + 400 ≤ R.slots)
    (hI : LI cI cJ cZ cO g0 m0 o B W1) (hP : va_P D vwCl W1 H) (hD : va_D (fun q => s.heap.size ≤ q) W1) (hS : va_S (fun q => s.heap.size ≤ q) s.heap H locs) (hd0 : s.drawn.sameBut d0 lw_cs) (hl : lv_has ls 9 (lvL b g0 m0 o i))
    (K : KN p l e R s m args below meth c D cI cJ cZ cO Q b g0 m0 o i B cells slots) : W p l e R (s.setDrawn d0) m args below meth c H locs cells slots Q (F0 m 593 ls []) := by
  obtain ⟨hx, hb, hml, hown, hts, hK, hN, hxs, hz0, hX, hbl⟩ := C
  have hts := dr_words hts d0
  have hown : (s.setDrawn d0).vm.findClass RL = some m.cls := hown
  have hX : va_X b L xs (s.setDrawn d0) s.heap := hX
  have hK : va_K D vwCl (tysK cI cJ cZ cO) (s.setDrawn d0) := hK
  have hN : NW (s.setDrawn d0) := NW.same (u := s) (U := s.setDrawn d0) rfl hN
  have hxs : XS (s.setDrawn d0) := XS.same (u := s) (U := s.setDrawn d0) rfl hxs
  have hz0 : ZS (fun q => s.heap.size ≤ q) (s.setDrawn d0) s.heap := hz0.moved (U := s.setDrawn d0) (Vm.Alike.refl s.vm)
  have hbA : ¬ (fun q : Nat => s.heap.size ≤ q) b := Nat.not_le.mpr hbl
  have hA : ∀ q : Nat, s.heap.size ≤ q → (fun q : Nat => s.heap.size ≤ q) q := fun _ h => h
  obtain ⟨a, bt, f, cf, E, fb, cb, eb, s0, sc, S0, S1, ma, tw, as, sl, se, sv, ov, rfl, rfl, hg, ha, hs0, hs1⟩ := hI

  refine lv_aload_n hx hb dL_law_593 rfl (lv_at hl 1 rfl) ?_
  refine lv_aload_n hx hb dL_law_594 rfl (lv_at hl 0 rfl) ?_
  refine lv_iload hx hb dL_law_595 (lv_at hl 4 rfl) ?_
  refine lv_iconst (v := 1) hx hb dL_law_597 (by decide) ?_
  refine lv_iadd hx hb dL_law_598 ?_
  refine r_scr hx hb hX hbl hbA hS (i := i + 1) (by omega) hL (nI_1 i) dL_law_599 ?_
  refine lv_aload_n hx hb dL_law_600 rfl (lv_at hl 0 rfl) ?_
  refine lv_iload hx hb dL_law_601 (lv_at hl 4 rfl) ?_
  refine lv_iconst (v := 2) hx hb dL_law_603 (by decide) ?_
  refine lv_iadd hx hb dL_law_604 ?_
  refine r_scr hx hb hX hbl hbA hS (i := i + 2) (by omega) hL (nI_add i 2) dL_law_605 ?_
  obtain ⟨p0, e0⟩ : ∃ x, xs (i + 1) = x := ⟨_, rfl⟩
  obtain ⟨p1, e1⟩ : ∃ x, xs (i + 2) = x := ⟨_, rfl⟩
  rw [e0, e1]
  refine callH (hh := _) (As := [.ref g0, .int p0, .int p1]) (rest := []) ⟨hx, hb, hml, hown, hts⟩ (hL_setDrift l D cI cJ cZ cO g0 p0 p1 _ rfl (by decide) (giC g0 (a 0) (bt 0) s0 :: simW cI a f cf E) (fun (_ : Unit) => giC g0 (a 0) (bt 0) s0 :: simW cI a (a_h1_X7_setDrift f p0 p1) cf E) (v_h0_thrown_X7_setDrift p0 p1) _ rfl (by unfold v_h0_thrown_X7_setDrift; (repeat' split) <;> first | exact Or.inl rfl | exact Or.inr rfl) (wrX6_setDrift l hlt D cI cJ cZ cO g0 (bt 0) s0 a f cf E p0 p1)) (vx_cwSW 3 hts gL_law_L_setDrift rfl rfl rfl (by decide +kernel) ⟨by show 7 + 1 ≤ R.frames; omega, by show 8 + (4 + 11) + 230 ≤ R.locals; omega⟩) hK hN hxs hz0 (P_perm (pm_1 _ _ _ _ _ _ _) hP) (D_perm (pm_1 _ _ _ _ _ _ _) hD) hS hA rfl rfl hl.1 (Nat.le_of_ble_eq_true rfl) dL_law_606 ⟨by show cells + 1 ≤ R.cells; omega, by show slots + 6 ≤ R.slots; omega⟩ (fun u H locs hP hD hS => ?_)
  replace hP := P_perm (pm_1 (giC g0 (a 0) (bt 0) s0) (scC cO s0 sc) (ocC cJ o ov) (simW cI a (a_h1_X7_setDrift f p0 p1) cf E) (simW cI bt fb cb eb) (S0 ++ S1) (mdW cI cJ cZ ma E tw f as sl se sv)).symm hP
  replace hD := D_perm (pm_1 (giC g0 (a 0) (bt 0) s0) (scC cO s0 sc) (ocC cJ o ov) (simW cI a (a_h1_X7_setDrift f p0 p1) cf E) (simW cI bt fb cb eb) (S0 ++ S1) (mdW cI cJ cZ ma E tw f as sl se sv)).symm hD
  refine lv_istore (lv' := (5, .int (v_h0_thrown_X7_setDrift p0 p1)) :: lvL b g0 (ma 0) o i) hx hb dL_law_609 hl (by decide) rfl (fun ls hl => ?_)
  refine lv_aload_n hx hb dL_law_611 rfl (lv_at hl 3 rfl) ?_
  refine lv_aload_n hx hb dL_law_612 rfl (lv_at hl 1 rfl) ?_
  refine lv_iload hx hb dL_law_613 (lv_at hl 5 rfl) ?_
  refine lv_iconst (v := 1) hx hb dL_law_615 (by decide) ?_
  refine lv_iadd hx hb dL_law_616 ?_
  refine r_scr hx hb hX hbl hbA hS (i := i + 1) (by omega) hL (nI_1 i) dL_law_617 ?_
  refine lv_aload_n hx hb dL_law_618 rfl (lv_at hl 1 rfl) ?_
  refine lv_iload hx hb dL_law_619 (lv_at hl 5 rfl) ?_
  refine lv_iconst (v := 2) hx hb dL_law_621 (by decide) ?_
  refine lv_iadd hx hb dL_law_622 ?_
  refine r_scr hx hb hX hbl hbA hS (i := i + 2) (by omega) hL (nI_add i 2) dL_law_623 ?_
  rw [e0, e1]
  refine callM_v (As := [.int p0, .int p1]) (rest := []) ⟨hx, hb, hml, hown, hts⟩ (mX7_setDrift l D cI cJ cZ cO (ma 0) (ma 1) (ma 2) (ma 3) (ma 4) (ma 5) E tw f p0 p1) (cwV 2 hts gL_law_X7_setDrift rfl rfl rfl (by decide +kernel) ⟨by show 1 + 1 ≤ R.frames; omega, by show 8 + (3 + 11) + 22 ≤ R.locals; omega⟩) hK hN (P_perm (pm_7 _ _ _ _ _ _ _ _ _) hP) (D_perm (pm_7 _ _ _ _ _ _ _ _ _) hD) hS hA 7 0 rfl rfl rfl rfl rfl hl.1 (Nat.le_of_ble_eq_true rfl) dL_law_624 ⟨by show cells + 1 + 0 ≤ R.cells; omega, by show slots + 6 + 0 ≤ R.slots; omega⟩ (fun u H locs hP hD hS => ?_)
  replace hP := P_perm (pm_7 (giC g0 (a 0) (bt 0) s0) (scC cO s0 sc) (ocC cJ o ov) _ _ (simW cI a (a_h1_X7_setDrift f p0 p1) cf E) (simW cI bt fb cb eb) (S0 ++ S1) _).symm hP
  replace hD := D_perm (pm_7 (giC g0 (a 0) (bt 0) s0) (scC cO s0 sc) (ocC cJ o ov) _ _ (simW cI a (a_h1_X7_setDrift f p0 p1) cf E) (simW cI bt fb cb eb) (S0 ++ S1) _).symm hD
  refine lv_aload_n hx hb dL_law_627 rfl (lv_at hl 3 rfl) ?_
  refine callM_i (As := []) (rest := []) ⟨hx, hb, hml, hown, hts⟩ (mX7_thrown l D cI cJ cZ cO (ma 0) (ma 1) (ma 2) (ma 3) (ma 4) (ma 5) E (v_h0_thrown_X7_setDrift p0 p1)) (cwV 0 hts gL_law_X7_thrown rfl rfl rfl (by decide +kernel) ⟨by show 0 + 1 ≤ R.frames; omega, by show 8 + (1 + 11) + 0 ≤ R.locals; omega⟩) hK hN (P_perm (pm_8 _ _ _ _ _ _ _ _) hP) (D_perm (pm_8 _ _ _ _ _ _ _ _) hD) hS hA 7 0 rfl rfl rfl rfl rfl hl.1 (Nat.le_of_ble_eq_true rfl) dL_law_628 ⟨by show cells + 1 + 0 + 0 ≤ R.cells; omega, by show slots + 6 + 0 + 0 ≤ R.slots; omega⟩ (fun H locs hP hD hS => ?_)
  replace hP := P_perm (pm_8 (giC g0 (a 0) (bt 0) s0) (scC cO s0 sc) (ocC cJ o ov) _ (simW cI a (a_h1_X7_setDrift f p0 p1) cf E) (simW cI bt fb cb eb) (S0 ++ S1) _).symm hP
  replace hD := D_perm (pm_8 (giC g0 (a 0) (bt 0) s0) (scC cO s0 sc) (ocC cJ o ov) _ (simW cI a (a_h1_X7_setDrift f p0 p1) cf E) (simW cI bt fb cb eb) (S0 ++ S1) _).symm hD
  refine lv_iload hx hb dL_law_631 (lv_at hl 0 rfl) ?_
  refine lv_icmp_eq (tgt := 638) hx hb dL_law_633 (by decide) (fun _ => ?_) (fun h => absurd rfl h)
  refine lv_goto (tgt := 1414) hx hb dL_law_638 (by decide) ?_
  refine W.widen (k := cells + 20) (n := slots + 400) (by show cells + 1 + 0 + 0 ≤ cells + 20; omega) (by show slots + 6 + 0 + 0 ≤ slots + 400; omega) ?_
  have kp := kp_setDrift (p0 := p0) (p1 := p1) hg ha
  exact K _ H locs d0 ls ⟨a, bt, _, _, _, fb, cb, eb, s0, sc, S0, S1, ma, _, as, sl, se, sv, ov, rfl, rfl, kp.1.up (by omega), kp.2, hs0.up (by omega), hs1.up (by omega)⟩ hP hD hS hd0 (lv_sub hl [1, 2, 3, 4, 5] rfl)
end LAW1
