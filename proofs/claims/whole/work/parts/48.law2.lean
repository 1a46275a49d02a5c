section LAW2
variable {p : Program} {l : Launch} {e : Env} {R : Room} {s : State} {m : MethodId} {args : Array Value} {below : List Frame} {meth : Method} {c : Code} {H : Heap} {locs : List Loc} {cells slots : Nat} {Q : State → Prop}
set_option maxHeartbeats 4000000 in
set_option maxRecDepth 100000 in
theorem kc_jump {D : va_G} {cI cJ cZ cO : ClassId} {b L g0 m0 o i B : Nat} {xs : Nat → Int32} {W1 : va_W} {d0 : Drawn} {ls : Array Slot} (hlt : l.stackTraces = false) (C : LC p s m args c D cI cJ cZ cO b L xs) (hL : L ≤ 2560) (hi : i + 5 ≤ L) (hR : 10 ≤ R.frames ∧ 376 ≤ R.locals) (hc : cells + 20 ≤ R.cells ∧ slots + 400 ≤ R.slots)
    (hI : LI cI cJ cZ cO g0 m0 o B W1) (hP : va_P D vwCl W1 H) (hD : va_D (fun q => s.heap.size ≤ q) W1) (hS : va_S (fun q => s.heap.size ≤ q) s.heap H locs) (hd0 : s.drawn.sameBut d0 lw_cs) (hl : lv_has ls 9 (lvL b g0 m0 o i))
    (K : KN p l e R s m args below meth c D cI cJ cZ cO Q b g0 m0 o i B cells slots) : W p l e R (s.setDrawn d0) m args below meth c H locs cells slots Q (F0 m 208 ls []) := by
  obtain ⟨hx, hb, hml, hown, hts, hK, hN, hxs, hz0, hX, hbl⟩ := C
  have hts := dr_words hts d0
  have hown : (s.setDrawn d0).vm.findClass RL = some m.cls := hown
  have hX : va_X b L xs (s.setDrawn d0) s.heap := hX
  have hK : va_K D vwCl (tysK cI cJ cZ cO) (s.setDrawn d0) := hK
  have hN : NW (s.setDrawn d0) := NW.same (u := s) (U := s.setDrawn d0) rfl hN
  have hxs : XS (s.setDrawn d0) := XS.same (u := s) (U := s.setDrawn d0) rfl hxs
  have hz0 : ZS (fun q => s.heap.size ≤ q) (s.setDrawn d0) s.heap := hz0.moved (U := s.setDrawn d0) (Vm.Alike.refl s.vm)
  have hbA : ¬ (fun q : Nat => s.heap.size ≤ q) b := Nat.not_le.mpr hbl
  have hA : ∀ q : Nat, s.heap.size ≤ q → (fun q : Nat => s.heap.size ≤ q) q := fun _ h => h
  obtain ⟨a, bt, f, cf, E, fb, cb, eb, s0, sc, S0, S1, ma, tw, as, sl, se, sv, ov, rfl, rfl, hg, ha, hs0, hs1⟩ := hI

  obtain ⟨hIv, t_, z, q, ht_, ht2_, hz, hz8, hq, hq2⟩ := id hg.1
  refine lv_aload_n hx hb dL_law_208 rfl (lv_at hl 1 rfl) ?_
  refine lv_aload_n hx hb dL_law_209 rfl (lv_at hl 0 rfl) ?_
  refine lv_iload hx hb dL_law_210 (lv_at hl 4 rfl) ?_
  refine lv_iconst (v := 1) hx hb dL_law_212 (by decide) ?_
  refine lv_iadd hx hb dL_law_213 ?_
  refine r_scr hx hb hX hbl hbA hS (i := i + 1) (by omega) hL (nI_1 i) dL_law_214 ?_
  refine lv_aload_n hx hb dL_law_215 rfl (lv_at hl 3 rfl) ?_
  obtain ⟨p0, e0⟩ : ∃ x, xs (i + 1) = x := ⟨_, rfl⟩
  rw [e0]
  refine callH (hh := _) (As := [.ref g0, .int p0, .ref o]) (rest := []) ⟨hx, hb, hml, hown, hts⟩ (hL_jump l D cI cJ cZ cO g0 p0 o ov _ rfl (by decide) (giC g0 (a 0) (bt 0) s0 :: simW cI a f cf E) (giC g0 (a 0) (bt 0) s0 :: simW cI a (a_h1_X7_jump f p0) cf E) (v_h0_thrown_X7_jump p0) (r_X7_jump f p0) _ rfl (by unfold v_h0_thrown_X7_jump; (repeat' split) <;> first | exact Or.inl rfl | exact Or.inr rfl) (wrX6_jump l hlt D cI cJ cZ cO g0 (bt 0) s0 a f cf E p0)) (vx_cwSW 3 hts gL_law_L_jump rfl rfl rfl (by decide +kernel) ⟨by show 7 + 1 ≤ R.frames; omega, by show 8 + (4 + 11) + 230 ≤ R.locals; omega⟩) hK hN hxs hz0 (P_perm (pm_2 _ _ _ _ _ _ _) hP) (D_perm (pm_2 _ _ _ _ _ _ _) hD) hS hA rfl rfl hl.1 (Nat.le_of_ble_eq_true rfl) dL_law_216 ⟨by show cells + 1 ≤ R.cells; omega, by show slots + 6 ≤ R.slots; omega⟩ (fun u H locs hP hD hS => ?_)
  replace hP := P_perm (pm_2 (giC g0 (a 0) (bt 0) s0) (scC cO s0 sc) (ocC cJ o (if (v_h0_thrown_X7_jump p0) = 0 then vp_updL ov 0 (r_X7_jump f p0).toInt64 else ov)) (simW cI a (a_h1_X7_jump f p0) cf E) (simW cI bt fb cb eb) (S0 ++ S1) (mdW cI cJ cZ ma E tw f as sl se sv)).symm hP
  replace hD := D_perm (pm_2 (giC g0 (a 0) (bt 0) s0) (scC cO s0 sc) (ocC cJ o (if (v_h0_thrown_X7_jump p0) = 0 then vp_updL ov 0 (r_X7_jump f p0).toInt64 else ov)) (simW cI a (a_h1_X7_jump f p0) cf E) (simW cI bt fb cb eb) (S0 ++ S1) (mdW cI cJ cZ ma E tw f as sl se sv)).symm hD
  refine lv_istore (lv' := (5, .int (v_h0_thrown_X7_jump p0)) :: lvL b g0 (ma 0) o i) hx hb dL_law_219 hl (by decide) rfl (fun ls hl => ?_)
  refine lv_aload_n hx hb dL_law_221 rfl (lv_at hl 3 rfl) ?_
  refine lv_aload_n hx hb dL_law_222 rfl (lv_at hl 1 rfl) ?_
  refine lv_iload hx hb dL_law_223 (lv_at hl 5 rfl) ?_
  refine lv_iconst (v := 1) hx hb dL_law_225 (by decide) ?_
  refine lv_iadd hx hb dL_law_226 ?_
  refine r_scr hx hb hX hbl hbA hS (i := i + 1) (by omega) hL (nI_1 i) dL_law_227 ?_
  rw [e0]
  refine callM_i (As := [.int p0]) (rest := []) ⟨hx, hb, hml, hown, hts⟩ (mX7_jump l D cI cJ cZ cO (ma 0) (ma 1) (ma 2) (ma 3) (ma 4) (ma 5) E tw f p0) (cwV 1 hts gL_law_X7_jump rfl rfl rfl (by decide +kernel) ⟨by show 1 + 1 ≤ R.frames; omega, by show 8 + (2 + 11) + 22 ≤ R.locals; omega⟩) hK hN (P_perm (pm_7 _ _ _ _ _ _ _ _ _) hP) (D_perm (pm_7 _ _ _ _ _ _ _ _ _) hD) hS hA 7 0 rfl rfl rfl rfl rfl hl.1 (Nat.le_of_ble_eq_true rfl) dL_law_228 ⟨by show cells + 1 + 0 ≤ R.cells; omega, by show slots + 6 + 0 ≤ R.slots; omega⟩ (fun H locs hP hD hS => ?_)
  replace hP := P_perm (pm_7 (giC g0 (a 0) (bt 0) s0) (scC cO s0 sc) (ocC cJ o (if (v_h0_thrown_X7_jump p0) = 0 then vp_updL ov 0 (r_X7_jump f p0).toInt64 else ov)) _ _ (simW cI a (a_h1_X7_jump f p0) cf E) (simW cI bt fb cb eb) (S0 ++ S1) _).symm hP
  replace hD := D_perm (pm_7 (giC g0 (a 0) (bt 0) s0) (scC cO s0 sc) (ocC cJ o (if (v_h0_thrown_X7_jump p0) = 0 then vp_updL ov 0 (r_X7_jump f p0).toInt64 else ov)) _ _ (simW cI a (a_h1_X7_jump f p0) cf E) (simW cI bt fb cb eb) (S0 ++ S1) _).symm hD
  refine lv_istore (lv' := (6, .int (r_X7_jump f p0)) :: (5, .int (v_h0_thrown_X7_jump p0)) :: lvL b g0 (ma 0) o i) hx hb dL_law_231 hl (by decide) rfl (fun ls hl => ?_)
  refine lv_aload_n hx hb dL_law_233 rfl (lv_at hl 4 rfl) ?_
  refine callM_i (As := []) (rest := []) ⟨hx, hb, hml, hown, hts⟩ (mX7_thrown l D cI cJ cZ cO (ma 0) (ma 1) (ma 2) (ma 3) (ma 4) (ma 5) E (v_h0_thrown_X7_jump p0)) (cwV 0 hts gL_law_X7_thrown rfl rfl rfl (by decide +kernel) ⟨by show 0 + 1 ≤ R.frames; omega, by show 8 + (1 + 11) + 0 ≤ R.locals; omega⟩) hK hN (P_perm (pm_8 _ _ _ _ _ _ _ _) hP) (D_perm (pm_8 _ _ _ _ _ _ _ _) hD) hS hA 7 0 rfl rfl rfl rfl rfl hl.1 (Nat.le_of_ble_eq_true rfl) dL_law_234 ⟨by show cells + 1 + 0 + 0 ≤ R.cells; omega, by show slots + 6 + 0 + 0 ≤ R.slots; omega⟩ (fun H locs hP hD hS => ?_)
  replace hP := P_perm (pm_8 (giC g0 (a 0) (bt 0) s0) (scC cO s0 sc) (ocC cJ o (if (v_h0_thrown_X7_jump p0) = 0 then vp_updL ov 0 (r_X7_jump f p0).toInt64 else ov)) _ (simW cI a (a_h1_X7_jump f p0) cf E) (simW cI bt fb cb eb) (S0 ++ S1) _).symm hP
  replace hD := D_perm (pm_8 (giC g0 (a 0) (bt 0) s0) (scC cO s0 sc) (ocC cJ o (if (v_h0_thrown_X7_jump p0) = 0 then vp_updL ov 0 (r_X7_jump f p0).toInt64 else ov)) _ (simW cI a (a_h1_X7_jump f p0) cf E) (simW cI bt fb cb eb) (S0 ++ S1) _).symm hD
  refine lv_iload hx hb dL_law_237 (lv_at hl 1 rfl) ?_
  refine lv_icmp_eq (tgt := 244) hx hb dL_law_239 (by decide) (fun _ => ?_) (fun h => absurd rfl h)
  have hend : W p l e R (s.setDrawn d0) m args below meth c H locs (cells + 1 + 0 + 0) (slots + 6 + 0 + 0) Q (F0 m 261 ls []) := by
    refine lv_goto (tgt := 1414) hx hb dL_law_261 (by decide) ?_
    refine W.widen (k := cells + 20) (n := slots + 400) (by show cells + 1 + 0 + 0 ≤ cells + 20; omega) (by show slots + 6 + 0 + 0 ≤ slots + 400; omega) ?_
    have kp : Gd (a_h1_X7_jump f p0) B ∧ AgN cf (a_h1_X7_jump f p0) := kp_jump hg ha
    exact K _ H locs d0 ls ⟨a, bt, _, _, _, fb, cb, eb, s0, sc, S0, S1, ma, _, as, sl, se, sv, _, rfl, rfl, kp.1.up (by omega), kp.2, hs0.up (by omega), hs1.up (by omega)⟩ hP hD hS hd0 (lv_sub hl [2, 3, 4, 5, 6] rfl)
  refine lv_iload hx hb dL_law_244 (lv_at hl 1 rfl) ?_
  refine lv_if_ne (tgt := 261) hx hb dL_law_246 (by decide) (fun _ => hend) (fun hk0 => ?_)
  refine lv_aload_n hx hb dL_law_249 rfl (lv_at hl 5 rfl) ?_
  refine lv_iconst (v := 0) hx hb dL_law_250 (by decide) ?_
  refine r_lald hx hb hK (P_perm (pm_6 _ _ _ _ _ _ _) hP) 0 1 rfl rfl 0 rfl (Nat.le_of_ble_eq_true rfl) (Nat.le_of_ble_eq_true rfl) dL_law_251 ?_
  rw [if_pos (Classical.byContradiction fun w => w (by first | exact hk0 | exact Classical.not_not.mp hk0))]
  refine lv_iload hx hb dL_law_252 (lv_at hl 0 rfl) ?_
  refine lv_i2l hx hb dL_law_254 rfl ?_
  refine W.lcmp hx hb dL_law_255 ?_
  refine lv_if_eq (tgt := 261) hx hb dL_law_256 (by decide) (fun _ => hend) (fun w => absurd (by unfold lg_cmp; simp [vp_updL]) w)

set_option maxHeartbeats 4000000 in
set_option maxRecDepth 100000 in
theorem kc_measure {D : va_G} {cI cJ cZ cO : ClassId} {b L g0 m0 o i B : Nat} {xs : Nat → Int32} {W1 : va_W} {d0 : Drawn} {ls : Array Slot} (hlt : l.stackTraces = false) (C : LC p s m args c D cI cJ cZ cO b L xs) (hL : L ≤ 2560) (hi : i + 5 ≤ L) (hR : 10 ≤ R.frames ∧ 376 ≤ R.locals) (hc : cells + 20 ≤ R.cells ∧ slots + 400 ≤ R.slots)
    (hI : LI cI cJ cZ cO g0 m0 o B W1) (hP : va_P D vwCl W1 H) (hD : va_D (fun q => s.heap.size ≤ q) W1) (hS : va_S (fun q => s.heap.size ≤ q) s.heap H locs) (hd0 : s.drawn.sameBut d0 lw_cs) (hl : lv_has ls 9 (lvL b g0 m0 o i))
    (K : KN p l e R s m args below meth c D cI cJ cZ cO Q b g0 m0 o i B cells slots) : W p l e R (s.setDrawn d0) m args below meth c H locs cells slots Q (F0 m 842 ls []) := by
  obtain ⟨hx, hb, hml, hown, hts, hK, hN, hxs, hz0, hX, hbl⟩ := C
  have hts := dr_words hts d0
  have hown : (s.setDrawn d0).vm.findClass RL = some m.cls := hown
  have hX : va_X b L xs (s.setDrawn d0) s.heap := hX
  have hK : va_K D vwCl (tysK cI cJ cZ cO) (s.setDrawn d0) := hK
  have hN : NW (s.setDrawn d0) := NW.same (u := s) (U := s.setDrawn d0) rfl hN
  have hxs : XS (s.setDrawn d0) := XS.same (u := s) (U := s.setDrawn d0) rfl hxs
  have hz0 : ZS (fun q => s.heap.size ≤ q) (s.setDrawn d0) s.heap := hz0.moved (U := s.setDrawn d0) (Vm.Alike.refl s.vm)
  have hbA : ¬ (fun q : Nat => s.heap.size ≤ q) b := Nat.not_le.mpr hbl
  have hA : ∀ q : Nat, s.heap.size ≤ q → (fun q : Nat => s.heap.size ≤ q) q := fun _ h => h
  obtain ⟨a, bt, f, cf, E, fb, cb, eb, s0, sc, S0, S1, ma, tw, as, sl, se, sv, ov, rfl, rfl, hg, ha, hs0, hs1⟩ := hI

  obtain ⟨hIv, t_, z, q, ht_, ht2_, hz, hz8, hq, hq2⟩ := id hg.1
  refine lv_aload_n hx hb dL_law_842 rfl (lv_at hl 1 rfl) ?_
  refine lv_aload_n hx hb dL_law_843 rfl (lv_at hl 0 rfl) ?_
  refine lv_iload hx hb dL_law_844 (lv_at hl 4 rfl) ?_
  refine lv_iconst (v := 1) hx hb dL_law_846 (by decide) ?_
  refine lv_iadd hx hb dL_law_847 ?_
  refine r_scr hx hb hX hbl hbA hS (i := i + 1) (by omega) hL (nI_1 i) dL_law_848 ?_
  refine lv_aload_n hx hb dL_law_849 rfl (lv_at hl 3 rfl) ?_
  obtain ⟨p0, e0⟩ : ∃ x, xs (i + 1) = x := ⟨_, rfl⟩
  rw [e0]
  refine callH (hh := _) (As := [.ref g0, .int p0, .ref o]) (rest := []) ⟨hx, hb, hml, hown, hts⟩ (hL_measure l D cI cJ cZ cO g0 p0 o ov _ rfl (by decide) (giC g0 (a 0) (bt 0) s0 :: simW cI a f cf E) (giC g0 (a 0) (bt 0) s0 :: simW cI a f cf E) (v_h0_thrown_X7_measure p0) (r_X7_measure f p0) _ rfl (by unfold v_h0_thrown_X7_measure; (repeat' split) <;> first | exact Or.inl rfl | exact Or.inr rfl) (wrX6_measure l hlt D cI cJ cZ cO g0 (bt 0) s0 a f cf E p0)) (vx_cwSW 3 hts gL_law_L_measure rfl rfl rfl (by decide +kernel) ⟨by show 7 + 1 ≤ R.frames; omega, by show 8 + (4 + 11) + 230 ≤ R.locals; omega⟩) hK hN hxs hz0 (P_perm (pm_2 _ _ _ _ _ _ _) hP) (D_perm (pm_2 _ _ _ _ _ _ _) hD) hS hA rfl rfl hl.1 (Nat.le_of_ble_eq_true rfl) dL_law_850 ⟨by show cells + 1 ≤ R.cells; omega, by show slots + 6 ≤ R.slots; omega⟩ (fun u H locs hP hD hS => ?_)
  replace hP := P_perm (pm_2 (giC g0 (a 0) (bt 0) s0) (scC cO s0 sc) (ocC cJ o (if (v_h0_thrown_X7_measure p0) = 0 then vp_updL ov 0 (r_X7_measure f p0).toInt64 else ov)) (simW cI a f cf E) (simW cI bt fb cb eb) (S0 ++ S1) (mdW cI cJ cZ ma E tw f as sl se sv)).symm hP
  replace hD := D_perm (pm_2 (giC g0 (a 0) (bt 0) s0) (scC cO s0 sc) (ocC cJ o (if (v_h0_thrown_X7_measure p0) = 0 then vp_updL ov 0 (r_X7_measure f p0).toInt64 else ov)) (simW cI a f cf E) (simW cI bt fb cb eb) (S0 ++ S1) (mdW cI cJ cZ ma E tw f as sl se sv)).symm hD
  refine lv_istore (lv' := (5, .int (v_h0_thrown_X7_measure p0)) :: lvL b g0 (ma 0) o i) hx hb dL_law_853 hl (by decide) rfl (fun ls hl => ?_)
  refine lv_aload_n hx hb dL_law_855 rfl (lv_at hl 3 rfl) ?_
  refine lv_aload_n hx hb dL_law_856 rfl (lv_at hl 1 rfl) ?_
  refine lv_iload hx hb dL_law_857 (lv_at hl 5 rfl) ?_
  refine lv_iconst (v := 1) hx hb dL_law_859 (by decide) ?_
  refine lv_iadd hx hb dL_law_860 ?_
  refine r_scr hx hb hX hbl hbA hS (i := i + 1) (by omega) hL (nI_1 i) dL_law_861 ?_
  rw [e0]
  refine callM_i (As := [.int p0]) (rest := []) ⟨hx, hb, hml, hown, hts⟩ (mX7_measure l D cI cJ cZ cO (ma 0) (ma 1) (ma 2) (ma 3) (ma 4) (ma 5) E tw f p0) (cwV 1 hts gL_law_X7_measure rfl rfl rfl (by decide +kernel) ⟨by show 1 + 1 ≤ R.frames; omega, by show 8 + (2 + 11) + 22 ≤ R.locals; omega⟩) hK hN (P_perm (pm_7 _ _ _ _ _ _ _ _ _) hP) (D_perm (pm_7 _ _ _ _ _ _ _ _ _) hD) hS hA 7 0 rfl rfl rfl rfl rfl hl.1 (Nat.le_of_ble_eq_true rfl) dL_law_862 ⟨by show cells + 1 + 0 ≤ R.cells; omega, by show slots + 6 + 0 ≤ R.slots; omega⟩ (fun H locs hP hD hS => ?_)
  replace hP := P_perm (pm_7 (giC g0 (a 0) (bt 0) s0) (scC cO s0 sc) (ocC cJ o (if (v_h0_thrown_X7_measure p0) = 0 then vp_updL ov 0 (r_X7_measure f p0).toInt64 else ov)) _ _ (simW cI a f cf E) (simW cI bt fb cb eb) (S0 ++ S1) _).symm hP
  replace hD := D_perm (pm_7 (giC g0 (a 0) (bt 0) s0) (scC cO s0 sc) (ocC cJ o (if (v_h0_thrown_X7_measure p0) = 0 then vp_updL ov 0 (r_X7_measure f p0).toInt64 else ov)) _ _ (simW cI a f cf E) (simW cI bt fb cb eb) (S0 ++ S1) _).symm hD
  refine lv_istore (lv' := (6, .int (r_X7_measure f p0)) :: (5, .int (v_h0_thrown_X7_measure p0)) :: lvL b g0 (ma 0) o i) hx hb dL_law_865 hl (by decide) rfl (fun ls hl => ?_)
  refine lv_aload_n hx hb dL_law_867 rfl (lv_at hl 4 rfl) ?_
  refine callM_i (As := []) (rest := []) ⟨hx, hb, hml, hown, hts⟩ (mX7_thrown l D cI cJ cZ cO (ma 0) (ma 1) (ma 2) (ma 3) (ma 4) (ma 5) E (v_h0_thrown_X7_measure p0)) (cwV 0 hts gL_law_X7_thrown rfl rfl rfl (by decide +kernel) ⟨by show 0 + 1 ≤ R.frames; omega, by show 8 + (1 + 11) + 0 ≤ R.locals; omega⟩) hK hN (P_perm (pm_8 _ _ _ _ _ _ _ _) hP) (D_perm (pm_8 _ _ _ _ _ _ _ _) hD) hS hA 7 0 rfl rfl rfl rfl rfl hl.1 (Nat.le_of_ble_eq_true rfl) dL_law_868 ⟨by show cells + 1 + 0 + 0 ≤ R.cells; omega, by show slots + 6 + 0 + 0 ≤ R.slots; omega⟩ (fun H locs hP hD hS => ?_)
  replace hP := P_perm (pm_8 (giC g0 (a 0) (bt 0) s0) (scC cO s0 sc) (ocC cJ o (if (v_h0_thrown_X7_measure p0) = 0 then vp_updL ov 0 (r_X7_measure f p0).toInt64 else ov)) _ (simW cI a f cf E) (simW cI bt fb cb eb) (S0 ++ S1) _).symm hP
  replace hD := D_perm (pm_8 (giC g0 (a 0) (bt 0) s0) (scC cO s0 sc) (ocC cJ o (if (v_h0_thrown_X7_measure p0) = 0 then vp_updL ov 0 (r_X7_measure f p0).toInt64 else ov)) _ (simW cI a f cf E) (simW cI bt fb cb eb) (S0 ++ S1) _).symm hD
  refine lv_iload hx hb dL_law_871 (lv_at hl 1 rfl) ?_
  refine lv_icmp_eq (tgt := 878) hx hb dL_law_873 (by decide) (fun _ => ?_) (fun h => absurd rfl h)
  have hend : W p l e R (s.setDrawn d0) m args below meth c H locs (cells + 1 + 0 + 0) (slots + 6 + 0 + 0) Q (F0 m 895 ls []) := by
    refine lv_goto (tgt := 1414) hx hb dL_law_895 (by decide) ?_
    refine W.widen (k := cells + 20) (n := slots + 400) (by show cells + 1 + 0 + 0 ≤ cells + 20; omega) (by show slots + 6 + 0 + 0 ≤ slots + 400; omega) ?_
    have kp : Gd f B ∧ AgN cf f := ⟨hg, ha⟩
    exact K _ H locs d0 ls ⟨a, bt, _, _, _, fb, cb, eb, s0, sc, S0, S1, ma, _, as, sl, se, sv, _, rfl, rfl, kp.1.up (by omega), kp.2, hs0.up (by omega), hs1.up (by omega)⟩ hP hD hS hd0 (lv_sub hl [2, 3, 4, 5, 6] rfl)
  refine lv_iload hx hb dL_law_878 (lv_at hl 1 rfl) ?_
  refine lv_if_ne (tgt := 895) hx hb dL_law_880 (by decide) (fun _ => hend) (fun hk0 => ?_)
  refine lv_aload_n hx hb dL_law_883 rfl (lv_at hl 5 rfl) ?_
  refine lv_iconst (v := 0) hx hb dL_law_884 (by decide) ?_
  refine r_lald hx hb hK (P_perm (pm_6 _ _ _ _ _ _ _) hP) 0 1 rfl rfl 0 rfl (Nat.le_of_ble_eq_true rfl) (Nat.le_of_ble_eq_true rfl) dL_law_885 ?_
  rw [if_pos (Classical.byContradiction fun w => w (by first | exact hk0 | exact Classical.not_not.mp hk0))]
  refine lv_iload hx hb dL_law_886 (lv_at hl 0 rfl) ?_
  refine lv_i2l hx hb dL_law_888 rfl ?_
  refine W.lcmp hx hb dL_law_889 ?_
  refine lv_if_eq (tgt := 895) hx hb dL_law_890 (by decide) (fun _ => hend) (fun w => absurd (by unfold lg_cmp; simp [vp_updL]) w)

set_option maxHeartbeats 4000000 in
set_option maxRecDepth 100000 in
theorem kc_event {D : va_G} {cI cJ cZ cO : ClassId} {b L g0 m0 o i B : Nat} {xs : Nat → Int32} {W1 : va_W} {d0 : Drawn} {ls : Array Slot} (hlt : l.stackTraces = false) (C : LC p s m args c D cI cJ cZ cO b L xs) (hL : L ≤ 2560) (hi : i + 5 ≤ L) (hR : 10 ≤ R.frames ∧ 376 ≤ R.locals) (hc : cells + 20 ≤ R.cells ∧ slots + 400 ≤ R.slots)
    (hI : LI cI cJ cZ cO g0 m0 o B W1) (hP : va_P D vwCl W1 H) (hD : va_D (fun q => s.heap.size ≤ q) W1) (hS : va_S (fun q => s.heap.size ≤ q) s.heap H locs) (hd0 : s.drawn.sameBut d0 lw_cs) (hl : lv_has ls 9 (lvL b g0 m0 o i))
    (hB : B < 2147483648) (K : KN p l e R s m args below meth c D cI cJ cZ cO Q b g0 m0 o i B cells slots) : W p l e R (s.setDrawn d0) m args below meth c H locs cells slots Q (F0 m 1022 ls []) := by
  obtain ⟨hx, hb, hml, hown, hts, hK, hN, hxs, hz0, hX, hbl⟩ := C
  have hts := dr_words hts d0
  have hown : (s.setDrawn d0).vm.findClass RL = some m.cls := hown
  have hX : va_X b L xs (s.setDrawn d0) s.heap := hX
  have hK : va_K D vwCl (tysK cI cJ cZ cO) (s.setDrawn d0) := hK
  have hN : NW (s.setDrawn d0) := NW.same (u := s) (U := s.setDrawn d0) rfl hN
  have hxs : XS (s.setDrawn d0) := XS.same (u := s) (U := s.setDrawn d0) rfl hxs
  have hz0 : ZS (fun q => s.heap.size ≤ q) (s.setDrawn d0) s.heap := hz0.moved (U := s.setDrawn d0) (Vm.Alike.refl s.vm)
  have hbA : ¬ (fun q : Nat => s.heap.size ≤ q) b := Nat.not_le.mpr hbl
  have hA : ∀ q : Nat, s.heap.size ≤ q → (fun q : Nat => s.heap.size ≤ q) q := fun _ h => h
  obtain ⟨a, bt, f, cf, E, fb, cb, eb, s0, sc, S0, S1, ma, tw, as, sl, se, sv, ov, rfl, rfl, hg, ha, hs0, hs1⟩ := hI

  obtain ⟨hIv, t_, z, q, ht_, ht2_, hz, hz8, hq, hq2⟩ := id hg.1
  refine lv_aload_n hx hb dL_law_1022 rfl (lv_at hl 1 rfl) ?_
  refine lv_aload_n hx hb dL_law_1023 rfl (lv_at hl 0 rfl) ?_
  refine lv_iload hx hb dL_law_1024 (lv_at hl 4 rfl) ?_
  refine lv_iconst (v := 1) hx hb dL_law_1026 (by decide) ?_
  refine lv_iadd hx hb dL_law_1027 ?_
  refine r_scr hx hb hX hbl hbA hS (i := i + 1) (by omega) hL (nI_1 i) dL_law_1028 ?_
  refine lv_aload_n hx hb dL_law_1029 rfl (lv_at hl 0 rfl) ?_
  refine lv_iload hx hb dL_law_1030 (lv_at hl 4 rfl) ?_
  refine lv_iconst (v := 2) hx hb dL_law_1032 (by decide) ?_
  refine lv_iadd hx hb dL_law_1033 ?_
  refine r_scr hx hb hX hbl hbA hS (i := i + 2) (by omega) hL (nI_add i 2) dL_law_1034 ?_
  refine lv_aload_n hx hb dL_law_1035 rfl (lv_at hl 3 rfl) ?_
  obtain ⟨p0, e0⟩ : ∃ x, xs (i + 1) = x := ⟨_, rfl⟩
  obtain ⟨p1, e1⟩ : ∃ x, xs (i + 2) = x := ⟨_, rfl⟩
  rw [e0, e1]
  refine callH (hh := _) (As := [.ref g0, .int p0, .int p1, .ref o]) (rest := []) ⟨hx, hb, hml, hown, hts⟩ (hL_event l D cI cJ cZ cO g0 p0 p1 o ov _ rfl (by decide) (giC g0 (a 0) (bt 0) s0 :: simW cI a f cf E) (giC g0 (a 0) (bt 0) s0 :: simW cI a f cf E) (v_h0_thrown_X7_event p1) (r_X7_event f p0 p1) _ rfl (by unfold v_h0_thrown_X7_event; (repeat' split) <;> first | exact Or.inl rfl | exact Or.inr rfl) (wrX6_event l hlt D cI cJ cZ cO g0 (bt 0) s0 a f cf E p0 p1 q hq (by omega))) (vx_cwSW 4 hts gL_law_L_event rfl rfl rfl (by decide +kernel) ⟨by show 7 + 1 ≤ R.frames; omega, by show 8 + (5 + 11) + 230 ≤ R.locals; omega⟩) hK hN hxs hz0 (P_perm (pm_2 _ _ _ _ _ _ _) hP) (D_perm (pm_2 _ _ _ _ _ _ _) hD) hS hA rfl rfl hl.1 (Nat.le_of_ble_eq_true rfl) dL_law_1036 ⟨by show cells + 1 ≤ R.cells; omega, by show slots + 6 ≤ R.slots; omega⟩ (fun u H locs hP hD hS => ?_)
  replace hP := P_perm (pm_2 (giC g0 (a 0) (bt 0) s0) (scC cO s0 sc) (ocC cJ o (if (v_h0_thrown_X7_event p1) = 0 then vp_updL ov 0 (r_X7_event f p0 p1).toInt64 else ov)) (simW cI a f cf E) (simW cI bt fb cb eb) (S0 ++ S1) (mdW cI cJ cZ ma E tw f as sl se sv)).symm hP
  replace hD := D_perm (pm_2 (giC g0 (a 0) (bt 0) s0) (scC cO s0 sc) (ocC cJ o (if (v_h0_thrown_X7_event p1) = 0 then vp_updL ov 0 (r_X7_event f p0 p1).toInt64 else ov)) (simW cI a f cf E) (simW cI bt fb cb eb) (S0 ++ S1) (mdW cI cJ cZ ma E tw f as sl se sv)).symm hD
  refine lv_istore (lv' := (5, .int (v_h0_thrown_X7_event p1)) :: lvL b g0 (ma 0) o i) hx hb dL_law_1039 hl (by decide) rfl (fun ls hl => ?_)
  refine lv_aload_n hx hb dL_law_1041 rfl (lv_at hl 3 rfl) ?_
  refine lv_aload_n hx hb dL_law_1042 rfl (lv_at hl 1 rfl) ?_
  refine lv_iload hx hb dL_law_1043 (lv_at hl 5 rfl) ?_
  refine lv_iconst (v := 1) hx hb dL_law_1045 (by decide) ?_
  refine lv_iadd hx hb dL_law_1046 ?_
  refine r_scr hx hb hX hbl hbA hS (i := i + 1) (by omega) hL (nI_1 i) dL_law_1047 ?_
  refine lv_aload_n hx hb dL_law_1048 rfl (lv_at hl 1 rfl) ?_
  refine lv_iload hx hb dL_law_1049 (lv_at hl 5 rfl) ?_
  refine lv_iconst (v := 2) hx hb dL_law_1051 (by decide) ?_
  refine lv_iadd hx hb dL_law_1052 ?_
  refine r_scr hx hb hX hbl hbA hS (i := i + 2) (by omega) hL (nI_add i 2) dL_law_1053 ?_
  rw [e0, e1]
  refine callM_i (As := [.int p0, .int p1]) (rest := []) ⟨hx, hb, hml, hown, hts⟩ (mX7_event l D cI cJ cZ cO (ma 0) (ma 1) (ma 2) (ma 3) (ma 4) (ma 5) E tw f p0 p1) (cwV 2 hts gL_law_X7_event rfl rfl rfl (by decide +kernel) ⟨by show 1 + 1 ≤ R.frames; omega, by show 8 + (3 + 11) + 22 ≤ R.locals; omega⟩) hK hN (P_perm (pm_7 _ _ _ _ _ _ _ _ _) hP) (D_perm (pm_7 _ _ _ _ _ _ _ _ _) hD) hS hA 7 0 rfl rfl rfl rfl rfl hl.1 (Nat.le_of_ble_eq_true rfl) dL_law_1054 ⟨by show cells + 1 + 0 ≤ R.cells; omega, by show slots + 6 + 0 ≤ R.slots; omega⟩ (fun H locs hP hD hS => ?_)
  replace hP := P_perm (pm_7 (giC g0 (a 0) (bt 0) s0) (scC cO s0 sc) (ocC cJ o (if (v_h0_thrown_X7_event p1) = 0 then vp_updL ov 0 (r_X7_event f p0 p1).toInt64 else ov)) _ _ (simW cI a f cf E) (simW cI bt fb cb eb) (S0 ++ S1) _).symm hP
  replace hD := D_perm (pm_7 (giC g0 (a 0) (bt 0) s0) (scC cO s0 sc) (ocC cJ o (if (v_h0_thrown_X7_event p1) = 0 then vp_updL ov 0 (r_X7_event f p0 p1).toInt64 else ov)) _ _ (simW cI a f cf E) (simW cI bt fb cb eb) (S0 ++ S1) _).symm hD
  refine lv_istore (lv' := (6, .int (r_X7_event f p0 p1)) :: (5, .int (v_h0_thrown_X7_event p1)) :: lvL b g0 (ma 0) o i) hx hb dL_law_1057 hl (by decide) rfl (fun ls hl => ?_)
  refine lv_aload_n hx hb dL_law_1059 rfl (lv_at hl 4 rfl) ?_
  refine callM_i (As := []) (rest := []) ⟨hx, hb, hml, hown, hts⟩ (mX7_thrown l D cI cJ cZ cO (ma 0) (ma 1) (ma 2) (ma 3) (ma 4) (ma 5) E (v_h0_thrown_X7_event p1)) (cwV 0 hts gL_law_X7_thrown rfl rfl rfl (by decide +kernel) ⟨by show 0 + 1 ≤ R.frames; omega, by show 8 + (1 + 11) + 0 ≤ R.locals; omega⟩) hK hN (P_perm (pm_8 _ _ _ _ _ _ _ _) hP) (D_perm (pm_8 _ _ _ _ _ _ _ _) hD) hS hA 7 0 rfl rfl rfl rfl rfl hl.1 (Nat.le_of_ble_eq_true rfl) dL_law_1060 ⟨by show cells + 1 + 0 + 0 ≤ R.cells; omega, by show slots + 6 + 0 + 0 ≤ R.slots; omega⟩ (fun H locs hP hD hS => ?_)
  replace hP := P_perm (pm_8 (giC g0 (a 0) (bt 0) s0) (scC cO s0 sc) (ocC cJ o (if (v_h0_thrown_X7_event p1) = 0 then vp_updL ov 0 (r_X7_event f p0 p1).toInt64 else ov)) _ (simW cI a f cf E) (simW cI bt fb cb eb) (S0 ++ S1) _).symm hP
  replace hD := D_perm (pm_8 (giC g0 (a 0) (bt 0) s0) (scC cO s0 sc) (ocC cJ o (if (v_h0_thrown_X7_event p1) = 0 then vp_updL ov 0 (r_X7_event f p0 p1).toInt64 else ov)) _ (simW cI a f cf E) (simW cI bt fb cb eb) (S0 ++ S1) _).symm hD
  refine lv_iload hx hb dL_law_1063 (lv_at hl 1 rfl) ?_
  refine lv_icmp_eq (tgt := 1070) hx hb dL_law_1065 (by decide) (fun _ => ?_) (fun h => absurd rfl h)
  have hend : W p l e R (s.setDrawn d0) m args below meth c H locs (cells + 1 + 0 + 0) (slots + 6 + 0 + 0) Q (F0 m 1087 ls []) := by
    refine lv_goto (tgt := 1414) hx hb dL_law_1087 (by decide) ?_
    refine W.widen (k := cells + 20) (n := slots + 400) (by show cells + 1 + 0 + 0 ≤ cells + 20; omega) (by show slots + 6 + 0 + 0 ≤ slots + 400; omega) ?_
    have kp : Gd f B ∧ AgN cf f := ⟨hg, ha⟩
    exact K _ H locs d0 ls ⟨a, bt, _, _, _, fb, cb, eb, s0, sc, S0, S1, ma, _, as, sl, se, sv, _, rfl, rfl, kp.1.up (by omega), kp.2, hs0.up (by omega), hs1.up (by omega)⟩ hP hD hS hd0 (lv_sub hl [2, 3, 4, 5, 6] rfl)
  refine lv_iload hx hb dL_law_1070 (lv_at hl 1 rfl) ?_
  refine lv_if_ne (tgt := 1087) hx hb dL_law_1072 (by decide) (fun _ => hend) (fun hk0 => ?_)
  refine lv_aload_n hx hb dL_law_1075 rfl (lv_at hl 5 rfl) ?_
  refine lv_iconst (v := 0) hx hb dL_law_1076 (by decide) ?_
  refine r_lald hx hb hK (P_perm (pm_6 _ _ _ _ _ _ _) hP) 0 1 rfl rfl 0 rfl (Nat.le_of_ble_eq_true rfl) (Nat.le_of_ble_eq_true rfl) dL_law_1077 ?_
  rw [if_pos (Classical.byContradiction fun w => w (by first | exact hk0 | exact Classical.not_not.mp hk0))]
  refine lv_iload hx hb dL_law_1078 (lv_at hl 0 rfl) ?_
  refine lv_i2l hx hb dL_law_1080 rfl ?_
  refine W.lcmp hx hb dL_law_1081 ?_
  refine lv_if_eq (tgt := 1087) hx hb dL_law_1082 (by decide) (fun _ => hend) (fun w => absurd (by unfold lg_cmp; simp [vp_updL]) w)

set_option maxHeartbeats 4000000 in
set_option maxRecDepth 100000 in
theorem kc_violations {D : va_G} {cI cJ cZ cO : ClassId} {b L g0 m0 o i B : Nat} {xs : Nat → Int32} {W1 : va_W} {d0 : Drawn} {ls : Array Slot} (hlt : l.stackTraces = false) (C : LC p s m args c D cI cJ cZ cO b L xs) (hL : L ≤ 2560) (hi : i + 5 ≤ L) (hR : 10 ≤ R.frames ∧ 376 ≤ R.locals) (hc : cells + 20 ≤ R.cells ∧ slots + 400 ≤ R.slots)
    (hI : LI cI cJ cZ cO g0 m0 o B W1) (hP : va_P D vwCl W1 H) (hD : va_D (fun q => s.heap.size ≤ q) W1) (hS : va_S (fun q => s.heap.size ≤ q) s.heap H locs) (hd0 : s.drawn.sameBut d0 lw_cs) (hl : lv_has ls 9 (lvL b g0 m0 o i))
    (hB : B < 2147483648) (K : KN p l e R s m args below meth c D cI cJ cZ cO Q b g0 m0 o i B cells slots) : W p l e R (s.setDrawn d0) m args below meth c H locs cells slots Q (F0 m 898 ls []) := by
  obtain ⟨hx, hb, hml, hown, hts, hK, hN, hxs, hz0, hX, hbl⟩ := C
  have hts := dr_words hts d0
  have hown : (s.setDrawn d0).vm.findClass RL = some m.cls := hown
  have hX : va_X b L xs (s.setDrawn d0) s.heap := hX
  have hK : va_K D vwCl (tysK cI cJ cZ cO) (s.setDrawn d0) := hK
  have hN : NW (s.setDrawn d0) := NW.same (u := s) (U := s.setDrawn d0) rfl hN
  have hxs : XS (s.setDrawn d0) := XS.same (u := s) (U := s.setDrawn d0) rfl hxs
  have hz0 : ZS (fun q => s.heap.size ≤ q) (s.setDrawn d0) s.heap := hz0.moved (U := s.setDrawn d0) (Vm.Alike.refl s.vm)
  have hbA : ¬ (fun q : Nat => s.heap.size ≤ q) b := Nat.not_le.mpr hbl
  have hA : ∀ q : Nat, s.heap.size ≤ q → (fun q : Nat => s.heap.size ≤ q) q := fun _ h => h
  obtain ⟨a, bt, f, cf, E, fb, cb, eb, s0, sc, S0, S1, ma, tw, as, sl, se, sv, ov, rfl, rfl, hg, ha, hs0, hs1⟩ := hI

  obtain ⟨hIv, t_, z, q, ht_, ht2_, hz, hz8, hq, hq2⟩ := id hg.1
  refine lv_aload_n hx hb dL_law_898 rfl (lv_at hl 1 rfl) ?_
  refine lv_aload_n hx hb dL_law_899 rfl (lv_at hl 0 rfl) ?_
  refine lv_iload hx hb dL_law_900 (lv_at hl 4 rfl) ?_
  refine lv_iconst (v := 1) hx hb dL_law_902 (by decide) ?_
  refine lv_iadd hx hb dL_law_903 ?_
  refine r_scr hx hb hX hbl hbA hS (i := i + 1) (by omega) hL (nI_1 i) dL_law_904 ?_
  refine lv_aload_n hx hb dL_law_905 rfl (lv_at hl 3 rfl) ?_
  obtain ⟨p0, e0⟩ : ∃ x, xs (i + 1) = x := ⟨_, rfl⟩
  rw [e0]
  refine callH (hh := _) (As := [.ref g0, .int p0, .ref o]) (rest := []) ⟨hx, hb, hml, hown, hts⟩ (hL_violations l D cI cJ cZ cO g0 p0 o ov _ rfl (by decide) (giC g0 (a 0) (bt 0) s0 :: simW cI a f cf E) (giC g0 (a 0) (bt 0) s0 :: simW cI a f cf E) (v_h0_thrown_X7_violations f p0) (r_X7_violations f p0) _ rfl (by unfold v_h0_thrown_X7_violations; (repeat' split) <;> first | exact Or.inl rfl | exact Or.inr rfl) (wrX6_violations l hlt D cI cJ cZ cO g0 (bt 0) s0 a f cf E p0 z B hz hz8 ha hg.2 hB)) (vx_cwSW 3 hts gL_law_L_violations rfl rfl rfl (by decide +kernel) ⟨by show 7 + 1 ≤ R.frames; omega, by show 8 + (4 + 11) + 230 ≤ R.locals; omega⟩) hK hN hxs hz0 (P_perm (pm_2 _ _ _ _ _ _ _) hP) (D_perm (pm_2 _ _ _ _ _ _ _) hD) hS hA rfl rfl hl.1 (Nat.le_of_ble_eq_true rfl) dL_law_906 ⟨by show cells + 1 ≤ R.cells; omega, by show slots + 6 ≤ R.slots; omega⟩ (fun u H locs hP hD hS => ?_)
  replace hP := P_perm (pm_2 (giC g0 (a 0) (bt 0) s0) (scC cO s0 sc) (ocC cJ o (if (v_h0_thrown_X7_violations f p0) = 0 then vp_updL ov 0 (r_X7_violations f p0).toInt64 else ov)) (simW cI a f cf E) (simW cI bt fb cb eb) (S0 ++ S1) (mdW cI cJ cZ ma E tw f as sl se sv)).symm hP
  replace hD := D_perm (pm_2 (giC g0 (a 0) (bt 0) s0) (scC cO s0 sc) (ocC cJ o (if (v_h0_thrown_X7_violations f p0) = 0 then vp_updL ov 0 (r_X7_violations f p0).toInt64 else ov)) (simW cI a f cf E) (simW cI bt fb cb eb) (S0 ++ S1) (mdW cI cJ cZ ma E tw f as sl se sv)).symm hD
  refine lv_istore (lv' := (5, .int (v_h0_thrown_X7_violations f p0)) :: lvL b g0 (ma 0) o i) hx hb dL_law_909 hl (by decide) rfl (fun ls hl => ?_)
  refine lv_aload_n hx hb dL_law_911 rfl (lv_at hl 3 rfl) ?_
  refine lv_aload_n hx hb dL_law_912 rfl (lv_at hl 1 rfl) ?_
  refine lv_iload hx hb dL_law_913 (lv_at hl 5 rfl) ?_
  refine lv_iconst (v := 1) hx hb dL_law_915 (by decide) ?_
  refine lv_iadd hx hb dL_law_916 ?_
  refine r_scr hx hb hX hbl hbA hS (i := i + 1) (by omega) hL (nI_1 i) dL_law_917 ?_
  rw [e0]
  refine callM_i (As := [.int p0]) (rest := []) ⟨hx, hb, hml, hown, hts⟩ (mX7_violations l D cI cJ cZ cO (ma 0) (ma 1) (ma 2) (ma 3) (ma 4) (ma 5) E tw f p0 z hz hz8) (cwV 1 hts gL_law_X7_violations rfl rfl rfl (by decide +kernel) ⟨by show 1 + 1 ≤ R.frames; omega, by show 8 + (2 + 11) + 22 ≤ R.locals; omega⟩) hK hN (P_perm (pm_7 _ _ _ _ _ _ _ _ _) hP) (D_perm (pm_7 _ _ _ _ _ _ _ _ _) hD) hS hA 7 0 rfl rfl rfl rfl rfl hl.1 (Nat.le_of_ble_eq_true rfl) dL_law_918 ⟨by show cells + 1 + 0 ≤ R.cells; omega, by show slots + 6 + 0 ≤ R.slots; omega⟩ (fun H locs hP hD hS => ?_)
  replace hP := P_perm (pm_7 (giC g0 (a 0) (bt 0) s0) (scC cO s0 sc) (ocC cJ o (if (v_h0_thrown_X7_violations f p0) = 0 then vp_updL ov 0 (r_X7_violations f p0).toInt64 else ov)) _ _ (simW cI a f cf E) (simW cI bt fb cb eb) (S0 ++ S1) _).symm hP
  replace hD := D_perm (pm_7 (giC g0 (a 0) (bt 0) s0) (scC cO s0 sc) (ocC cJ o (if (v_h0_thrown_X7_violations f p0) = 0 then vp_updL ov 0 (r_X7_violations f p0).toInt64 else ov)) _ _ (simW cI a f cf E) (simW cI bt fb cb eb) (S0 ++ S1) _).symm hD
  refine lv_istore (lv' := (6, .int (r_X7_violations f p0)) :: (5, .int (v_h0_thrown_X7_violations f p0)) :: lvL b g0 (ma 0) o i) hx hb dL_law_921 hl (by decide) rfl (fun ls hl => ?_)
  refine lv_aload_n hx hb dL_law_923 rfl (lv_at hl 4 rfl) ?_
  refine callM_i (As := []) (rest := []) ⟨hx, hb, hml, hown, hts⟩ (mX7_thrown l D cI cJ cZ cO (ma 0) (ma 1) (ma 2) (ma 3) (ma 4) (ma 5) E (v_h0_thrown_X7_violations f p0)) (cwV 0 hts gL_law_X7_thrown rfl rfl rfl (by decide +kernel) ⟨by show 0 + 1 ≤ R.frames; omega, by show 8 + (1 + 11) + 0 ≤ R.locals; omega⟩) hK hN (P_perm (pm_8 _ _ _ _ _ _ _ _) hP) (D_perm (pm_8 _ _ _ _ _ _ _ _) hD) hS hA 7 0 rfl rfl rfl rfl rfl hl.1 (Nat.le_of_ble_eq_true rfl) dL_law_924 ⟨by show cells + 1 + 0 + 0 ≤ R.cells; omega, by show slots + 6 + 0 + 0 ≤ R.slots; omega⟩ (fun H locs hP hD hS => ?_)
  replace hP := P_perm (pm_8 (giC g0 (a 0) (bt 0) s0) (scC cO s0 sc) (ocC cJ o (if (v_h0_thrown_X7_violations f p0) = 0 then vp_updL ov 0 (r_X7_violations f p0).toInt64 else ov)) _ (simW cI a f cf E) (simW cI bt fb cb eb) (S0 ++ S1) _).symm hP
  replace hD := D_perm (pm_8 (giC g0 (a 0) (bt 0) s0) (scC cO s0 sc) (ocC cJ o (if (v_h0_thrown_X7_violations f p0) = 0 then vp_updL ov 0 (r_X7_violations f p0).toInt64 else ov)) _ (simW cI a f cf E) (simW cI bt fb cb eb) (S0 ++ S1) _).symm hD
  refine lv_iload hx hb dL_law_927 (lv_at hl 1 rfl) ?_
  refine lv_icmp_eq (tgt := 934) hx hb dL_law_929 (by decide) (fun _ => ?_) (fun h => absurd rfl h)
  have hend : W p l e R (s.setDrawn d0) m args below meth c H locs (cells + 1 + 0 + 0) (slots + 6 + 0 + 0) Q (F0 m 951 ls []) := by
    refine lv_goto (tgt := 1414) hx hb dL_law_951 (by decide) ?_
    refine W.widen (k := cells + 20) (n := slots + 400) (by show cells + 1 + 0 + 0 ≤ cells + 20; omega) (by show slots + 6 + 0 + 0 ≤ slots + 400; omega) ?_
    have kp : Gd f B ∧ AgN cf f := ⟨hg, ha⟩
    exact K _ H locs d0 ls ⟨a, bt, _, _, _, fb, cb, eb, s0, sc, S0, S1, ma, _, as, sl, se, sv, _, rfl, rfl, kp.1.up (by omega), kp.2, hs0.up (by omega), hs1.up (by omega)⟩ hP hD hS hd0 (lv_sub hl [2, 3, 4, 5, 6] rfl)
  refine lv_iload hx hb dL_law_934 (lv_at hl 1 rfl) ?_
  refine lv_if_ne (tgt := 951) hx hb dL_law_936 (by decide) (fun _ => hend) (fun hk0 => ?_)
  refine lv_aload_n hx hb dL_law_939 rfl (lv_at hl 5 rfl) ?_
  refine lv_iconst (v := 0) hx hb dL_law_940 (by decide) ?_
  refine r_lald hx hb hK (P_perm (pm_6 _ _ _ _ _ _ _) hP) 0 1 rfl rfl 0 rfl (Nat.le_of_ble_eq_true rfl) (Nat.le_of_ble_eq_true rfl) dL_law_941 ?_
  rw [if_pos (Classical.byContradiction fun w => w (by first | exact hk0 | exact Classical.not_not.mp hk0))]
  refine lv_iload hx hb dL_law_942 (lv_at hl 0 rfl) ?_
  refine lv_i2l hx hb dL_law_944 rfl ?_
  refine W.lcmp hx hb dL_law_945 ?_
  refine lv_if_eq (tgt := 951) hx hb dL_law_946 (by decide) (fun _ => hend) (fun w => absurd (by unfold lg_cmp; simp [vp_updL]) w)

set_option maxHeartbeats 4000000 in
set_option maxRecDepth 100000 in
theorem kc_addRule {D : va_G} {cI cJ cZ cO : ClassId} {b L g0 m0 o i B : Nat} {xs : Nat → Int32} {W1 : va_W} {d0 : Drawn} {ls : Array Slot} (hlt : l.stackTraces = false) (C : LC p s m args c D cI cJ cZ cO b L xs) (hL : L ≤ 2560) (hi : i + 5 ≤ L) (hR : 10 ≤ R.frames ∧ 376 ≤ R.locals) (hc : cells + 20 ≤ R.cells ∧ slots + 400 ≤ R.slots)
    (hI : LI cI cJ cZ cO g0 m0 o B W1) (hP : va_P D vwCl W1 H) (hD : va_D (fun q => s.heap.size ≤ q) W1) (hS : va_S (fun q => s.heap.size ≤ q) s.heap H locs) (hd0 : s.drawn.sameBut d0 lw_cs) (hl : lv_has ls 9 (lvL b g0 m0 o i))
    (K : KN p l e R s m args below meth c D cI cJ cZ cO Q b g0 m0 o i B cells slots) : W p l e R (s.setDrawn d0) m args below meth c H locs cells slots Q (F0 m 641 ls []) := by
  obtain ⟨hx, hb, hml, hown, hts, hK, hN, hxs, hz0, hX, hbl⟩ := C
  have hts := dr_words hts d0
  have hown : (s.setDrawn d0).vm.findClass RL = some m.cls := hown
  have hX : va_X b L xs (s.setDrawn d0) s.heap := hX
  have hK : va_K D vwCl (tysK cI cJ cZ cO) (s.setDrawn d0) := hK
  have hN : NW (s.setDrawn d0) := NW.same (u := s) (U := s.setDrawn d0) rfl hN
  have hxs : XS (s.setDrawn d0) := XS.same (u := s) (U := s.setDrawn d0) rfl hxs
  have hz0 : ZS (fun q => s.heap.size ≤ q) (s.setDrawn d0) s.heap := hz0.moved (U := s.setDrawn d0) (Vm.Alike.refl s.vm)
  have hbA : ¬ (fun q : Nat => s.heap.size ≤ q) b := Nat.not_le.mpr hbl
  have hA : ∀ q : Nat, s.heap.size ≤ q → (fun q : Nat => s.heap.size ≤ q) q := fun _ h => h
  obtain ⟨a, bt, f, cf, E, fb, cb, eb, s0, sc, S0, S1, ma, tw, as, sl, se, sv, ov, rfl, rfl, hg, ha, hs0, hs1⟩ := hI

  obtain ⟨hIv, t_, z, q, ht_, ht2_, hz, hz8, hq, hq2⟩ := id hg.1
  refine lv_aload_n hx hb dL_law_641 rfl (lv_at hl 1 rfl) ?_
  refine lv_aload_n hx hb dL_law_642 rfl (lv_at hl 0 rfl) ?_
  refine lv_iload hx hb dL_law_643 (lv_at hl 4 rfl) ?_
  refine lv_iconst (v := 1) hx hb dL_law_645 (by decide) ?_
  refine lv_iadd hx hb dL_law_646 ?_
  refine r_scr hx hb hX hbl hbA hS (i := i + 1) (by omega) hL (nI_1 i) dL_law_647 ?_
  refine lv_aload_n hx hb dL_law_648 rfl (lv_at hl 0 rfl) ?_
  refine lv_iload hx hb dL_law_649 (lv_at hl 4 rfl) ?_
  refine lv_iconst (v := 2) hx hb dL_law_651 (by decide) ?_
  refine lv_iadd hx hb dL_law_652 ?_
  refine r_scr hx hb hX hbl hbA hS (i := i + 2) (by omega) hL (nI_add i 2) dL_law_653 ?_
  refine lv_aload_n hx hb dL_law_654 rfl (lv_at hl 0 rfl) ?_
  refine lv_iload hx hb dL_law_655 (lv_at hl 4 rfl) ?_
  refine lv_iconst (v := 3) hx hb dL_law_657 (by decide) ?_
  refine lv_iadd hx hb dL_law_658 ?_
  refine r_scr hx hb hX hbl hbA hS (i := i + 3) (by omega) hL (nI_add i 3) dL_law_659 ?_
  refine lv_aload_n hx hb dL_law_660 rfl (lv_at hl 3 rfl) ?_
  obtain ⟨p0, e0⟩ : ∃ x, xs (i + 1) = x := ⟨_, rfl⟩
  obtain ⟨p1, e1⟩ : ∃ x, xs (i + 2) = x := ⟨_, rfl⟩
  obtain ⟨p2, e2⟩ : ∃ x, xs (i + 3) = x := ⟨_, rfl⟩
  rw [e0, e1, e2]
  refine callH (hh := _) (As := [.ref g0, .int p0, .int p1, .int p2, .ref o]) (rest := []) ⟨hx, hb, hml, hown, hts⟩ (hL_addRule l D cI cJ cZ cO g0 p0 p1 p2 o ov _ rfl (by decide) (giC g0 (a 0) (bt 0) s0 :: simW cI a f cf E) (giC g0 (a 0) (bt 0) s0 :: simW cI a (a_h1_X7_addRule f p0 p1 p2 z) (a_h10_X6_addRule (f 30) cf p0 p1 p2 z) E) (v_h0_thrown_X7_addRule f p0 p1 p2) (r_X7_addRule f p0 p1 p2) _ rfl (by unfold v_h0_thrown_X7_addRule; (repeat' split) <;> first | exact Or.inl rfl | exact Or.inr (Or.inl rfl) | exact Or.inr (Or.inr rfl)) (wrX6_addRule l hlt D cI cJ cZ cO g0 (bt 0) s0 a f cf E p0 p1 p2 z hz hz8)) (vx_cwSW 5 hts gL_law_L_addRule rfl rfl rfl (by decide +kernel) ⟨by show 7 + 1 ≤ R.frames; omega, by show 8 + (6 + 11) + 230 ≤ R.locals; omega⟩) hK hN hxs hz0 (P_perm (pm_2 _ _ _ _ _ _ _) hP) (D_perm (pm_2 _ _ _ _ _ _ _) hD) hS hA rfl rfl hl.1 (Nat.le_of_ble_eq_true rfl) dL_law_661 ⟨by show cells + 1 ≤ R.cells; omega, by show slots + 6 ≤ R.slots; omega⟩ (fun u H locs hP hD hS => ?_)
  replace hP := P_perm (pm_2 (giC g0 (a 0) (bt 0) s0) (scC cO s0 sc) (ocC cJ o (if (v_h0_thrown_X7_addRule f p0 p1 p2) = 0 then vp_updL ov 0 (r_X7_addRule f p0 p1 p2).toInt64 else ov)) (simW cI a (a_h1_X7_addRule f p0 p1 p2 z) (a_h10_X6_addRule (f 30) cf p0 p1 p2 z) E) (simW cI bt fb cb eb) (S0 ++ S1) (mdW cI cJ cZ ma E tw f as sl se sv)).symm hP
  replace hD := D_perm (pm_2 (giC g0 (a 0) (bt 0) s0) (scC cO s0 sc) (ocC cJ o (if (v_h0_thrown_X7_addRule f p0 p1 p2) = 0 then vp_updL ov 0 (r_X7_addRule f p0 p1 p2).toInt64 else ov)) (simW cI a (a_h1_X7_addRule f p0 p1 p2 z) (a_h10_X6_addRule (f 30) cf p0 p1 p2 z) E) (simW cI bt fb cb eb) (S0 ++ S1) (mdW cI cJ cZ ma E tw f as sl se sv)).symm hD
  refine lv_istore (lv' := (5, .int (v_h0_thrown_X7_addRule f p0 p1 p2)) :: lvL b g0 (ma 0) o i) hx hb dL_law_664 hl (by decide) rfl (fun ls hl => ?_)
  refine lv_aload_n hx hb dL_law_666 rfl (lv_at hl 3 rfl) ?_
  refine lv_aload_n hx hb dL_law_667 rfl (lv_at hl 1 rfl) ?_
  refine lv_iload hx hb dL_law_668 (lv_at hl 5 rfl) ?_
  refine lv_iconst (v := 1) hx hb dL_law_670 (by decide) ?_
  refine lv_iadd hx hb dL_law_671 ?_
  refine r_scr hx hb hX hbl hbA hS (i := i + 1) (by omega) hL (nI_1 i) dL_law_672 ?_
  refine lv_aload_n hx hb dL_law_673 rfl (lv_at hl 1 rfl) ?_
  refine lv_iload hx hb dL_law_674 (lv_at hl 5 rfl) ?_
  refine lv_iconst (v := 2) hx hb dL_law_676 (by decide) ?_
  refine lv_iadd hx hb dL_law_677 ?_
  refine r_scr hx hb hX hbl hbA hS (i := i + 2) (by omega) hL (nI_add i 2) dL_law_678 ?_
  refine lv_aload_n hx hb dL_law_679 rfl (lv_at hl 1 rfl) ?_
  refine lv_iload hx hb dL_law_680 (lv_at hl 5 rfl) ?_
  refine lv_iconst (v := 3) hx hb dL_law_682 (by decide) ?_
  refine lv_iadd hx hb dL_law_683 ?_
  refine r_scr hx hb hX hbl hbA hS (i := i + 3) (by omega) hL (nI_add i 3) dL_law_684 ?_
  rw [e0, e1, e2]
  refine callM_i (As := [.int p0, .int p1, .int p2]) (rest := []) ⟨hx, hb, hml, hown, hts⟩ (mX7_addRule l D cI cJ cZ cO (ma 0) (ma 1) (ma 2) (ma 3) (ma 4) (ma 5) E tw f p0 p1 p2 z hz hz8) (cwV 3 hts gL_law_X7_addRule rfl rfl rfl (by decide +kernel) ⟨by show 1 + 1 ≤ R.frames; omega, by show 8 + (5 + 11) + 22 ≤ R.locals; omega⟩) hK hN (P_perm (pm_7 _ _ _ _ _ _ _ _ _) hP) (D_perm (pm_7 _ _ _ _ _ _ _ _ _) hD) hS hA 7 0 rfl rfl rfl rfl rfl hl.1 (Nat.le_of_ble_eq_true rfl) dL_law_685 ⟨by show cells + 1 + 0 ≤ R.cells; omega, by show slots + 6 + 0 ≤ R.slots; omega⟩ (fun H locs hP hD hS => ?_)
  replace hP := P_perm (pm_7 (giC g0 (a 0) (bt 0) s0) (scC cO s0 sc) (ocC cJ o (if (v_h0_thrown_X7_addRule f p0 p1 p2) = 0 then vp_updL ov 0 (r_X7_addRule f p0 p1 p2).toInt64 else ov)) _ _ (simW cI a (a_h1_X7_addRule f p0 p1 p2 z) (a_h10_X6_addRule (f 30) cf p0 p1 p2 z) E) (simW cI bt fb cb eb) (S0 ++ S1) _).symm hP
  replace hD := D_perm (pm_7 (giC g0 (a 0) (bt 0) s0) (scC cO s0 sc) (ocC cJ o (if (v_h0_thrown_X7_addRule f p0 p1 p2) = 0 then vp_updL ov 0 (r_X7_addRule f p0 p1 p2).toInt64 else ov)) _ _ (simW cI a (a_h1_X7_addRule f p0 p1 p2 z) (a_h10_X6_addRule (f 30) cf p0 p1 p2 z) E) (simW cI bt fb cb eb) (S0 ++ S1) _).symm hD
  refine lv_istore (lv' := (6, .int (r_X7_addRule f p0 p1 p2)) :: (5, .int (v_h0_thrown_X7_addRule f p0 p1 p2)) :: lvL b g0 (ma 0) o i) hx hb dL_law_688 hl (by decide) rfl (fun ls hl => ?_)
  refine lv_aload_n hx hb dL_law_690 rfl (lv_at hl 4 rfl) ?_
  refine callM_i (As := []) (rest := []) ⟨hx, hb, hml, hown, hts⟩ (mX7_thrown l D cI cJ cZ cO (ma 0) (ma 1) (ma 2) (ma 3) (ma 4) (ma 5) E (v_h0_thrown_X7_addRule f p0 p1 p2)) (cwV 0 hts gL_law_X7_thrown rfl rfl rfl (by decide +kernel) ⟨by show 0 + 1 ≤ R.frames; omega, by show 8 + (1 + 11) + 0 ≤ R.locals; omega⟩) hK hN (P_perm (pm_8 _ _ _ _ _ _ _ _) hP) (D_perm (pm_8 _ _ _ _ _ _ _ _) hD) hS hA 7 0 rfl rfl rfl rfl rfl hl.1 (Nat.le_of_ble_eq_true rfl) dL_law_691 ⟨by show cells + 1 + 0 + 0 ≤ R.cells; omega, by show slots + 6 + 0 + 0 ≤ R.slots; omega⟩ (fun H locs hP hD hS => ?_)
  replace hP := P_perm (pm_8 (giC g0 (a 0) (bt 0) s0) (scC cO s0 sc) (ocC cJ o (if (v_h0_thrown_X7_addRule f p0 p1 p2) = 0 then vp_updL ov 0 (r_X7_addRule f p0 p1 p2).toInt64 else ov)) _ (simW cI a (a_h1_X7_addRule f p0 p1 p2 z) (a_h10_X6_addRule (f 30) cf p0 p1 p2 z) E) (simW cI bt fb cb eb) (S0 ++ S1) _).symm hP
  replace hD := D_perm (pm_8 (giC g0 (a 0) (bt 0) s0) (scC cO s0 sc) (ocC cJ o (if (v_h0_thrown_X7_addRule f p0 p1 p2) = 0 then vp_updL ov 0 (r_X7_addRule f p0 p1 p2).toInt64 else ov)) _ (simW cI a (a_h1_X7_addRule f p0 p1 p2 z) (a_h10_X6_addRule (f 30) cf p0 p1 p2 z) E) (simW cI bt fb cb eb) (S0 ++ S1) _).symm hD
  refine lv_iload hx hb dL_law_694 (lv_at hl 1 rfl) ?_
  refine lv_icmp_eq (tgt := 701) hx hb dL_law_696 (by decide) (fun _ => ?_) (fun h => absurd rfl h)
  have hend : W p l e R (s.setDrawn d0) m args below meth c H locs (cells + 1 + 0 + 0) (slots + 6 + 0 + 0) Q (F0 m 718 ls []) := by
    refine lv_goto (tgt := 1414) hx hb dL_law_718 (by decide) ?_
    refine W.widen (k := cells + 20) (n := slots + 400) (by show cells + 1 + 0 + 0 ≤ cells + 20; omega) (by show slots + 6 + 0 + 0 ≤ slots + 400; omega) ?_
    have kp : Gd (a_h1_X7_addRule f p0 p1 p2 z) B ∧ AgN (a_h10_X6_addRule (f 30) cf p0 p1 p2 z) (a_h1_X7_addRule f p0 p1 p2 z) := kp_addRule hz hz8 hg ha
    exact K _ H locs d0 ls ⟨a, bt, _, _, _, fb, cb, eb, s0, sc, S0, S1, ma, _, as, sl, se, sv, _, rfl, rfl, kp.1.up (by omega), kp.2, hs0.up (by omega), hs1.up (by omega)⟩ hP hD hS hd0 (lv_sub hl [2, 3, 4, 5, 6] rfl)
  refine lv_iload hx hb dL_law_701 (lv_at hl 1 rfl) ?_
  refine lv_if_ne (tgt := 718) hx hb dL_law_703 (by decide) (fun _ => hend) (fun hk0 => ?_)
  refine lv_aload_n hx hb dL_law_706 rfl (lv_at hl 5 rfl) ?_
  refine lv_iconst (v := 0) hx hb dL_law_707 (by decide) ?_
  refine r_lald hx hb hK (P_perm (pm_6 _ _ _ _ _ _ _) hP) 0 1 rfl rfl 0 rfl (Nat.le_of_ble_eq_true rfl) (Nat.le_of_ble_eq_true rfl) dL_law_708 ?_
  rw [if_pos (Classical.byContradiction fun w => w (by first | exact hk0 | exact Classical.not_not.mp hk0))]
  refine lv_iload hx hb dL_law_709 (lv_at hl 0 rfl) ?_
  refine lv_i2l hx hb dL_law_711 rfl ?_
  refine W.lcmp hx hb dL_law_712 ?_
  refine lv_if_eq (tgt := 718) hx hb dL_law_713 (by decide) (fun _ => hend) (fun w => absurd (by unfold lg_cmp; simp [vp_updL]) w)
end LAW2
