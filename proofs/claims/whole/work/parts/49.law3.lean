section LAW3
variable {p : Program} {l : Launch} {e : Env} {R : Room} {s : State} {m : MethodId} {args : Array Value} {below : List Frame} {meth : Method} {c : Code} {H : Heap} {locs : List Loc} {cells slots : Nat} {Q : State → Prop}
set_option maxHeartbeats 4000000 in
set_option maxRecDepth 100000 in
theorem kc_state {D : va_G} {cI cJ cZ cO : ClassId} {b L g0 m0 o i B : Nat} {xs : Nat → Int32} {W1 : va_W} {d0 : Drawn} {ls : Array Slot} (C : LC p s m args c D cI cJ cZ cO b L xs) (hL : L ≤ 2560) (hi : i + 5 ≤ L) (hR : 10 ≤ R.frames ∧ 376 ≤ R.locals) (hc : cells + 20 ≤ R.cells ∧ slots + 400 ≤ R.slots)
    (hI : LI cI cJ cZ cO g0 m0 o B W1) (hP : va_P D vwCl W1 H) (hD : va_D (fun q => s.heap.size ≤ q) W1) (hS : va_S (fun q => s.heap.size ≤ q) s.heap H locs) (hd0 : s.drawn.sameBut d0 lw_cs) (hl : lv_has ls 9 (lvL b g0 m0 o i))
    (K : KN p l e R s m args below meth c D cI cJ cZ cO Q b g0 m0 o i B cells slots) : W p l e R (s.setDrawn d0) m args below meth c H locs cells slots Q (F0 m 816 ls []) := by
  obtain ⟨hx, hb, hml, hown, hts, hK, hN, hxs, hz0, hX, hbl⟩ := C
  have hts := dr_words hts d0
  have hown : (s.setDrawn d0).vm.findClass RL = some m.cls := hown
  have hX : va_X b L xs (s.setDrawn d0) s.heap := hX
  have hK : va_K D vwCl (tysK cI cJ cZ cO) (s.setDrawn d0) := hK
  have hN : NW (s.setDrawn d0) := NW.same (u := s) (U := s.setDrawn d0) rfl hN
  have hxs : XS (s.setDrawn d0) := XS.same (u := s) (U := s.setDrawn d0) rfl hxs
  have hz0 : ZS (fun q => s.heap.size ≤ q) (s.setDrawn d0) s.heap := hz0.moved (U := s.setDrawn d0) (Vm.Alike.refl s.vm)
  have hbA : ¬ (fun q : Nat => s.heap.size ≤ q) b := Nat.not_le.mpr hbl
  have hA : ∀ q : Nat, s.heap.size ≤ q → (fun q : Nat => s.heap.size ≤ q) q := fun _ h => h
  obtain ⟨a, bt, f, cf, E, fb, cb, eb, s0, sc, S0, S1, ma, tw, as, sl, se, sv, ov, rfl, rfl, hg, ha, hs0, hs1⟩ := hI

  obtain ⟨hIv, t_, z, q, ht_, ht2_, hz, hz8, hq, hq2⟩ := id hg.1
  refine lv_aload_n hx hb dL_law_816 rfl (lv_at hl 1 rfl) ?_
  refine callM_i (As := []) (rest := []) ⟨hx, hb, hml, hown, hts⟩ (wrX6_state l D cI cJ cZ cO g0 (bt 0) s0 a f cf E) (cwV 0 hts gL_law_X6_state rfl rfl rfl (by decide +kernel) ⟨by show 0 + 1 ≤ R.frames; omega, by show 8 + (1 + 11) + 0 ≤ R.locals; omega⟩) hK hN (P_perm (pm_1 _ _ _ _ _ _ _) hP) (D_perm (pm_1 _ _ _ _ _ _ _) hD) hS hA 6 0 rfl rfl rfl rfl rfl hl.1 (Nat.le_of_ble_eq_true rfl) dL_law_817 ⟨by show cells + 0 ≤ R.cells; omega, by show slots + 0 ≤ R.slots; omega⟩ (fun H locs hP hD hS => ?_)
  replace hP := P_perm (pm_1 (giC g0 (a 0) (bt 0) s0) (scC cO s0 sc) (ocC cJ o ov) (simW cI a f cf E) (simW cI bt fb cb eb) (S0 ++ S1) (mdW cI cJ cZ ma E tw f as sl se sv)).symm hP
  replace hD := D_perm (pm_1 (giC g0 (a 0) (bt 0) s0) (scC cO s0 sc) (ocC cJ o ov) (simW cI a f cf E) (simW cI bt fb cb eb) (S0 ++ S1) (mdW cI cJ cZ ma E tw f as sl se sv)).symm hD
  refine lv_aload_n hx hb dL_law_820 rfl (lv_at hl 2 rfl) ?_
  refine callM_i (As := []) (rest := [.int (r_X7_state f)]) ⟨hx, hb, hml, hown, hts⟩ (mX7_state l D cI cJ cZ cO (ma 0) (ma 1) (ma 2) (ma 3) (ma 4) (ma 5) E tw f) (cwV 0 hts gL_law_X7_state rfl rfl rfl (by decide +kernel) ⟨by show 0 + 1 ≤ R.frames; omega, by show 8 + (1 + 11) + 0 ≤ R.locals; omega⟩) hK hN (P_perm (pm_7 _ _ _ _ _ _ _ _ _) hP) (D_perm (pm_7 _ _ _ _ _ _ _ _ _) hD) hS hA 7 0 rfl rfl rfl rfl rfl hl.1 (Nat.le_of_ble_eq_true rfl) dL_law_821 ⟨by show cells + 0 + 0 ≤ R.cells; omega, by show slots + 0 + 0 ≤ R.slots; omega⟩ (fun H locs hP hD hS => ?_)
  replace hP := P_perm (pm_7 (giC g0 (a 0) (bt 0) s0) (scC cO s0 sc) (ocC cJ o ov) _ _ (simW cI a f cf E) (simW cI bt fb cb eb) (S0 ++ S1) _).symm hP
  replace hD := D_perm (pm_7 (giC g0 (a 0) (bt 0) s0) (scC cO s0 sc) (ocC cJ o ov) _ _ (simW cI a f cf E) (simW cI bt fb cb eb) (S0 ++ S1) _).symm hD
  refine lv_icmp_eq (tgt := 1414) hx hb dL_law_824 (by decide) (fun _ => ?_) (fun h => absurd rfl h)
  refine W.widen (k := cells + 20) (n := slots + 400) (by show cells + 0 + 0 ≤ cells + 20; omega) (by show slots + 0 + 0 ≤ slots + 400; omega) ?_
  have kp : Gd f (B + 1) ∧ AgN cf f := ⟨hg.up (by omega), ha⟩
  exact K _ H locs d0 ls ⟨a, bt, _, _, _, fb, cb, eb, s0, sc, S0, S1, ma, _, as, sl, se, sv, ov, rfl, rfl, kp.1.up (by omega), kp.2, hs0.up (by omega), hs1.up (by omega)⟩ hP hD hS hd0 hl

set_option maxHeartbeats 4000000 in
set_option maxRecDepth 100000 in
theorem kc_isLocked {D : va_G} {cI cJ cZ cO : ClassId} {b L g0 m0 o i B : Nat} {xs : Nat → Int32} {W1 : va_W} {d0 : Drawn} {ls : Array Slot} (C : LC p s m args c D cI cJ cZ cO b L xs) (hL : L ≤ 2560) (hi : i + 5 ≤ L) (hR : 10 ≤ R.frames ∧ 376 ≤ R.locals) (hc : cells + 20 ≤ R.cells ∧ slots + 400 ≤ R.slots)
    (hI : LI cI cJ cZ cO g0 m0 o B W1) (hP : va_P D vwCl W1 H) (hD : va_D (fun q => s.heap.size ≤ q) W1) (hS : va_S (fun q => s.heap.size ≤ q) s.heap H locs) (hd0 : s.drawn.sameBut d0 lw_cs) (hl : lv_has ls 9 (lvL b g0 m0 o i))
    (K : KN p l e R s m args below meth c D cI cJ cZ cO Q b g0 m0 o i B cells slots) : W p l e R (s.setDrawn d0) m args below meth c H locs cells slots Q (F0 m 829 ls []) := by
  obtain ⟨hx, hb, hml, hown, hts, hK, hN, hxs, hz0, hX, hbl⟩ := C
  have hts := dr_words hts d0
  have hown : (s.setDrawn d0).vm.findClass RL = some m.cls := hown
  have hX : va_X b L xs (s.setDrawn d0) s.heap := hX
  have hK : va_K D vwCl (tysK cI cJ cZ cO) (s.setDrawn d0) := hK
  have hN : NW (s.setDrawn d0) := NW.same (u := s) (U := s.setDrawn d0) rfl hN
  have hxs : XS (s.setDrawn d0) := XS.same (u := s) (U := s.setDrawn d0) rfl hxs
  have hz0 : ZS (fun q => s.heap.size ≤ q) (s.setDrawn d0) s.heap := hz0.moved (U := s.setDrawn d0) (Vm.Alike.refl s.vm)
  have hbA : ¬ (fun q : Nat => s.heap.size ≤ q) b := Nat.not_le.mpr hbl
  have hA : ∀ q : Nat, s.heap.size ≤ q → (fun q : Nat => s.heap.size ≤ q) q := fun _ h => h
  obtain ⟨a, bt, f, cf, E, fb, cb, eb, s0, sc, S0, S1, ma, tw, as, sl, se, sv, ov, rfl, rfl, hg, ha, hs0, hs1⟩ := hI

  obtain ⟨hIv, t_, z, q, ht_, ht2_, hz, hz8, hq, hq2⟩ := id hg.1
  refine lv_aload_n hx hb dL_law_829 rfl (lv_at hl 1 rfl) ?_
  refine callM_i (As := []) (rest := []) ⟨hx, hb, hml, hown, hts⟩ (wrX6_isLocked l D cI cJ cZ cO g0 (bt 0) s0 a f cf E) (cwV 0 hts gL_law_X6_isLocked rfl rfl rfl (by decide +kernel) ⟨by show 1 + 1 ≤ R.frames; omega, by show 8 + (1 + 11) + 20 ≤ R.locals; omega⟩) hK hN (P_perm (pm_1 _ _ _ _ _ _ _) hP) (D_perm (pm_1 _ _ _ _ _ _ _) hD) hS hA 6 0 rfl rfl rfl rfl rfl hl.1 (Nat.le_of_ble_eq_true rfl) dL_law_830 ⟨by show cells + 0 ≤ R.cells; omega, by show slots + 0 ≤ R.slots; omega⟩ (fun H locs hP hD hS => ?_)
  replace hP := P_perm (pm_1 (giC g0 (a 0) (bt 0) s0) (scC cO s0 sc) (ocC cJ o ov) (simW cI a f cf E) (simW cI bt fb cb eb) (S0 ++ S1) (mdW cI cJ cZ ma E tw f as sl se sv)).symm hP
  replace hD := D_perm (pm_1 (giC g0 (a 0) (bt 0) s0) (scC cO s0 sc) (ocC cJ o ov) (simW cI a f cf E) (simW cI bt fb cb eb) (S0 ++ S1) (mdW cI cJ cZ ma E tw f as sl se sv)).symm hD
  refine lv_aload_n hx hb dL_law_833 rfl (lv_at hl 2 rfl) ?_
  refine callM_i (As := []) (rest := [.int (r_X7_isLocked f)]) ⟨hx, hb, hml, hown, hts⟩ (mX7_isLocked l D cI cJ cZ cO (ma 0) (ma 1) (ma 2) (ma 3) (ma 4) (ma 5) E tw f) (cwV 0 hts gL_law_X7_isLocked rfl rfl rfl (by decide +kernel) ⟨by show 1 + 1 ≤ R.frames; omega, by show 8 + (1 + 11) + 20 ≤ R.locals; omega⟩) hK hN (P_perm (pm_7 _ _ _ _ _ _ _ _ _) hP) (D_perm (pm_7 _ _ _ _ _ _ _ _ _) hD) hS hA 7 0 rfl rfl rfl rfl rfl hl.1 (Nat.le_of_ble_eq_true rfl) dL_law_834 ⟨by show cells + 0 + 0 ≤ R.cells; omega, by show slots + 0 + 0 ≤ R.slots; omega⟩ (fun H locs hP hD hS => ?_)
  replace hP := P_perm (pm_7 (giC g0 (a 0) (bt 0) s0) (scC cO s0 sc) (ocC cJ o ov) _ _ (simW cI a f cf E) (simW cI bt fb cb eb) (S0 ++ S1) _).symm hP
  replace hD := D_perm (pm_7 (giC g0 (a 0) (bt 0) s0) (scC cO s0 sc) (ocC cJ o ov) _ _ (simW cI a f cf E) (simW cI bt fb cb eb) (S0 ++ S1) _).symm hD
  refine lv_icmp_eq (tgt := 1414) hx hb dL_law_837 (by decide) (fun _ => ?_) (fun h => absurd rfl h)
  refine W.widen (k := cells + 20) (n := slots + 400) (by show cells + 0 + 0 ≤ cells + 20; omega) (by show slots + 0 + 0 ≤ slots + 400; omega) ?_
  have kp : Gd f (B + 1) ∧ AgN cf f := ⟨hg.up (by omega), ha⟩
  exact K _ H locs d0 ls ⟨a, bt, _, _, _, fb, cb, eb, s0, sc, S0, S1, ma, _, as, sl, se, sv, ov, rfl, rfl, kp.1.up (by omega), kp.2, hs0.up (by omega), hs1.up (by omega)⟩ hP hD hS hd0 hl

set_option maxHeartbeats 4000000 in
set_option maxRecDepth 100000 in
theorem kc_events {D : va_G} {cI cJ cZ cO : ClassId} {b L g0 m0 o i B : Nat} {xs : Nat → Int32} {W1 : va_W} {d0 : Drawn} {ls : Array Slot} (C : LC p s m args c D cI cJ cZ cO b L xs) (hL : L ≤ 2560) (hi : i + 5 ≤ L) (hR : 10 ≤ R.frames ∧ 376 ≤ R.locals) (hc : cells + 20 ≤ R.cells ∧ slots + 400 ≤ R.slots)
    (hI : LI cI cJ cZ cO g0 m0 o B W1) (hP : va_P D vwCl W1 H) (hD : va_D (fun q => s.heap.size ≤ q) W1) (hS : va_S (fun q => s.heap.size ≤ q) s.heap H locs) (hd0 : s.drawn.sameBut d0 lw_cs) (hl : lv_has ls 9 (lvL b g0 m0 o i))
    (K : KN p l e R s m args below meth c D cI cJ cZ cO Q b g0 m0 o i B cells slots) : W p l e R (s.setDrawn d0) m args below meth c H locs cells slots Q (F0 m 1009 ls []) := by
  obtain ⟨hx, hb, hml, hown, hts, hK, hN, hxs, hz0, hX, hbl⟩ := C
  have hts := dr_words hts d0
  have hown : (s.setDrawn d0).vm.findClass RL = some m.cls := hown
  have hX : va_X b L xs (s.setDrawn d0) s.heap := hX
  have hK : va_K D vwCl (tysK cI cJ cZ cO) (s.setDrawn d0) := hK
  have hN : NW (s.setDrawn d0) := NW.same (u := s) (U := s.setDrawn d0) rfl hN
  have hxs : XS (s.setDrawn d0) := XS.same (u := s) (U := s.setDrawn d0) rfl hxs
  have hz0 : ZS (fun q => s.heap.size ≤ q) (s.setDrawn d0) s.heap := hz0.moved (U := s.setDrawn d0) (Vm.Alike.refl s.vm)
  have hbA : ¬ (fun q : Nat => s.heap.size ≤ q) b := Nat.not_le.mpr hbl
  have hA : ∀ q : Nat, s.heap.size ≤ q → (fun q : Nat => s.heap.size ≤ q) q := fun _ h => h
  obtain ⟨a, bt, f, cf, E, fb, cb, eb, s0, sc, S0, S1, ma, tw, as, sl, se, sv, ov, rfl, rfl, hg, ha, hs0, hs1⟩ := hI

  obtain ⟨hIv, t_, z, q, ht_, ht2_, hz, hz8, hq, hq2⟩ := id hg.1
  refine lv_aload_n hx hb dL_law_1009 rfl (lv_at hl 1 rfl) ?_
  refine callM_i (As := []) (rest := []) ⟨hx, hb, hml, hown, hts⟩ (wrX6_events l D cI cJ cZ cO g0 (bt 0) s0 a f cf E) (cwV 0 hts gL_law_X6_events rfl rfl rfl (by decide +kernel) ⟨by show 0 + 1 ≤ R.frames; omega, by show 8 + (1 + 11) + 0 ≤ R.locals; omega⟩) hK hN (P_perm (pm_1 _ _ _ _ _ _ _) hP) (D_perm (pm_1 _ _ _ _ _ _ _) hD) hS hA 6 0 rfl rfl rfl rfl rfl hl.1 (Nat.le_of_ble_eq_true rfl) dL_law_1010 ⟨by show cells + 0 ≤ R.cells; omega, by show slots + 0 ≤ R.slots; omega⟩ (fun H locs hP hD hS => ?_)
  replace hP := P_perm (pm_1 (giC g0 (a 0) (bt 0) s0) (scC cO s0 sc) (ocC cJ o ov) (simW cI a f cf E) (simW cI bt fb cb eb) (S0 ++ S1) (mdW cI cJ cZ ma E tw f as sl se sv)).symm hP
  replace hD := D_perm (pm_1 (giC g0 (a 0) (bt 0) s0) (scC cO s0 sc) (ocC cJ o ov) (simW cI a f cf E) (simW cI bt fb cb eb) (S0 ++ S1) (mdW cI cJ cZ ma E tw f as sl se sv)).symm hD
  refine lv_aload_n hx hb dL_law_1013 rfl (lv_at hl 2 rfl) ?_
  refine callM_i (As := []) (rest := [.int (r_X7_events f)]) ⟨hx, hb, hml, hown, hts⟩ (mX7_events l D cI cJ cZ cO (ma 0) (ma 1) (ma 2) (ma 3) (ma 4) (ma 5) E tw f) (cwV 0 hts gL_law_X7_events rfl rfl rfl (by decide +kernel) ⟨by show 0 + 1 ≤ R.frames; omega, by show 8 + (1 + 11) + 0 ≤ R.locals; omega⟩) hK hN (P_perm (pm_7 _ _ _ _ _ _ _ _ _) hP) (D_perm (pm_7 _ _ _ _ _ _ _ _ _) hD) hS hA 7 0 rfl rfl rfl rfl rfl hl.1 (Nat.le_of_ble_eq_true rfl) dL_law_1014 ⟨by show cells + 0 + 0 ≤ R.cells; omega, by show slots + 0 + 0 ≤ R.slots; omega⟩ (fun H locs hP hD hS => ?_)
  replace hP := P_perm (pm_7 (giC g0 (a 0) (bt 0) s0) (scC cO s0 sc) (ocC cJ o ov) _ _ (simW cI a f cf E) (simW cI bt fb cb eb) (S0 ++ S1) _).symm hP
  replace hD := D_perm (pm_7 (giC g0 (a 0) (bt 0) s0) (scC cO s0 sc) (ocC cJ o ov) _ _ (simW cI a f cf E) (simW cI bt fb cb eb) (S0 ++ S1) _).symm hD
  refine lv_icmp_eq (tgt := 1414) hx hb dL_law_1017 (by decide) (fun _ => ?_) (fun h => absurd rfl h)
  refine W.widen (k := cells + 20) (n := slots + 400) (by show cells + 0 + 0 ≤ cells + 20; omega) (by show slots + 0 + 0 ≤ slots + 400; omega) ?_
  have kp : Gd f (B + 1) ∧ AgN cf f := ⟨hg.up (by omega), ha⟩
  exact K _ H locs d0 ls ⟨a, bt, _, _, _, fb, cb, eb, s0, sc, S0, S1, ma, _, as, sl, se, sv, ov, rfl, rfl, kp.1.up (by omega), kp.2, hs0.up (by omega), hs1.up (by omega)⟩ hP hD hS hd0 hl

set_option maxHeartbeats 4000000 in
set_option maxRecDepth 100000 in
theorem kc_start {D : va_G} {cI cJ cZ cO : ClassId} {b L g0 m0 o i B : Nat} {xs : Nat → Int32} {W1 : va_W} {d0 : Drawn} {ls : Array Slot} (C : LC p s m args c D cI cJ cZ cO b L xs) (hL : L ≤ 2560) (hi : i + 5 ≤ L) (hR : 10 ≤ R.frames ∧ 376 ≤ R.locals) (hc : cells + 20 ≤ R.cells ∧ slots + 400 ≤ R.slots)
    (hI : LI cI cJ cZ cO g0 m0 o B W1) (hP : va_P D vwCl W1 H) (hD : va_D (fun q => s.heap.size ≤ q) W1) (hS : va_S (fun q => s.heap.size ≤ q) s.heap H locs) (hd0 : s.drawn.sameBut d0 lw_cs) (hl : lv_has ls 9 (lvL b g0 m0 o i))
    (K : KN p l e R s m args below meth c D cI cJ cZ cO Q b g0 m0 o i B cells slots) : W p l e R (s.setDrawn d0) m args below meth c H locs cells slots Q (F0 m 734 ls []) := by
  obtain ⟨hx, hb, hml, hown, hts, hK, hN, hxs, hz0, hX, hbl⟩ := C
  have hts := dr_words hts d0
  have hown : (s.setDrawn d0).vm.findClass RL = some m.cls := hown
  have hX : va_X b L xs (s.setDrawn d0) s.heap := hX
  have hK : va_K D vwCl (tysK cI cJ cZ cO) (s.setDrawn d0) := hK
  have hN : NW (s.setDrawn d0) := NW.same (u := s) (U := s.setDrawn d0) rfl hN
  have hxs : XS (s.setDrawn d0) := XS.same (u := s) (U := s.setDrawn d0) rfl hxs
  have hz0 : ZS (fun q => s.heap.size ≤ q) (s.setDrawn d0) s.heap := hz0.moved (U := s.setDrawn d0) (Vm.Alike.refl s.vm)
  have hbA : ¬ (fun q : Nat => s.heap.size ≤ q) b := Nat.not_le.mpr hbl
  have hA : ∀ q : Nat, s.heap.size ≤ q → (fun q : Nat => s.heap.size ≤ q) q := fun _ h => h
  obtain ⟨a, bt, f, cf, E, fb, cb, eb, s0, sc, S0, S1, ma, tw, as, sl, se, sv, ov, rfl, rfl, hg, ha, hs0, hs1⟩ := hI

  obtain ⟨hIv, t_, z, q, ht_, ht2_, hz, hz8, hq, hq2⟩ := id hg.1
  refine lv_aload_n hx hb dL_law_734 rfl (lv_at hl 1 rfl) ?_
  refine callM_i (As := []) (rest := []) ⟨hx, hb, hml, hown, hts⟩ (wrX6_start l D cI cJ cZ cO g0 (bt 0) s0 a f cf E) (cwV 0 hts gL_law_X6_start rfl rfl rfl (by decide +kernel) ⟨by show 1 + 1 ≤ R.frames; omega, by show 8 + (1 + 11) + 20 ≤ R.locals; omega⟩) hK hN (P_perm (pm_1 _ _ _ _ _ _ _) hP) (D_perm (pm_1 _ _ _ _ _ _ _) hD) hS hA 6 0 rfl rfl rfl rfl rfl hl.1 (Nat.le_of_ble_eq_true rfl) dL_law_735 ⟨by show cells + 0 ≤ R.cells; omega, by show slots + 0 ≤ R.slots; omega⟩ (fun H locs hP hD hS => ?_)
  replace hP := P_perm (pm_1 (giC g0 (a 0) (bt 0) s0) (scC cO s0 sc) (ocC cJ o ov) (simW cI a (a_h1_X7_start f) cf E) (simW cI bt fb cb eb) (S0 ++ S1) (mdW cI cJ cZ ma E tw f as sl se sv)).symm hP
  replace hD := D_perm (pm_1 (giC g0 (a 0) (bt 0) s0) (scC cO s0 sc) (ocC cJ o ov) (simW cI a (a_h1_X7_start f) cf E) (simW cI bt fb cb eb) (S0 ++ S1) (mdW cI cJ cZ ma E tw f as sl se sv)).symm hD
  refine lv_aload_n hx hb dL_law_738 rfl (lv_at hl 2 rfl) ?_
  refine callM_i (As := []) (rest := [.int (r_X7_start f)]) ⟨hx, hb, hml, hown, hts⟩ (mX7_start l D cI cJ cZ cO (ma 0) (ma 1) (ma 2) (ma 3) (ma 4) (ma 5) E tw f) (cwV 0 hts gL_law_X7_start rfl rfl rfl (by decide +kernel) ⟨by show 0 + 1 ≤ R.frames; omega, by show 8 + (2 + 11) + 0 ≤ R.locals; omega⟩) hK hN (P_perm (pm_7 _ _ _ _ _ _ _ _ _) hP) (D_perm (pm_7 _ _ _ _ _ _ _ _ _) hD) hS hA 7 0 rfl rfl rfl rfl rfl hl.1 (Nat.le_of_ble_eq_true rfl) dL_law_739 ⟨by show cells + 0 + 0 ≤ R.cells; omega, by show slots + 0 + 0 ≤ R.slots; omega⟩ (fun H locs hP hD hS => ?_)
  replace hP := P_perm (pm_7 (giC g0 (a 0) (bt 0) s0) (scC cO s0 sc) (ocC cJ o ov) _ _ (simW cI a (a_h1_X7_start f) cf E) (simW cI bt fb cb eb) (S0 ++ S1) _).symm hP
  replace hD := D_perm (pm_7 (giC g0 (a 0) (bt 0) s0) (scC cO s0 sc) (ocC cJ o ov) _ _ (simW cI a (a_h1_X7_start f) cf E) (simW cI bt fb cb eb) (S0 ++ S1) _).symm hD
  refine lv_icmp_eq (tgt := 1414) hx hb dL_law_742 (by decide) (fun _ => ?_) (fun h => absurd rfl h)
  refine W.widen (k := cells + 20) (n := slots + 400) (by show cells + 0 + 0 ≤ cells + 20; omega) (by show slots + 0 + 0 ≤ slots + 400; omega) ?_
  have kp : Gd (a_h1_X7_start f) (B + 1) ∧ AgN cf (a_h1_X7_start f) := ⟨(kp_start hg ha).1.up (by omega), (kp_start hg ha).2⟩
  exact K _ H locs d0 ls ⟨a, bt, _, _, _, fb, cb, eb, s0, sc, S0, S1, ma, _, as, sl, se, sv, ov, rfl, rfl, kp.1.up (by omega), kp.2, hs0.up (by omega), hs1.up (by omega)⟩ hP hD hS hd0 hl

set_option maxHeartbeats 4000000 in
set_option maxRecDepth 100000 in
theorem kc_clearRules {D : va_G} {cI cJ cZ cO : ClassId} {b L g0 m0 o i B : Nat} {xs : Nat → Int32} {W1 : va_W} {d0 : Drawn} {ls : Array Slot} (C : LC p s m args c D cI cJ cZ cO b L xs) (hL : L ≤ 2560) (hi : i + 5 ≤ L) (hR : 10 ≤ R.frames ∧ 376 ≤ R.locals) (hc : cells + 20 ≤ R.cells ∧ slots + 400 ≤ R.slots)
    (hI : LI cI cJ cZ cO g0 m0 o B W1) (hP : va_P D vwCl W1 H) (hD : va_D (fun q => s.heap.size ≤ q) W1) (hS : va_S (fun q => s.heap.size ≤ q) s.heap H locs) (hd0 : s.drawn.sameBut d0 lw_cs) (hl : lv_has ls 9 (lvL b g0 m0 o i))
    (K : KN p l e R s m args below meth c D cI cJ cZ cO Q b g0 m0 o i B cells slots) : W p l e R (s.setDrawn d0) m args below meth c H locs cells slots Q (F0 m 721 ls []) := by
  obtain ⟨hx, hb, hml, hown, hts, hK, hN, hxs, hz0, hX, hbl⟩ := C
  have hts := dr_words hts d0
  have hown : (s.setDrawn d0).vm.findClass RL = some m.cls := hown
  have hX : va_X b L xs (s.setDrawn d0) s.heap := hX
  have hK : va_K D vwCl (tysK cI cJ cZ cO) (s.setDrawn d0) := hK
  have hN : NW (s.setDrawn d0) := NW.same (u := s) (U := s.setDrawn d0) rfl hN
  have hxs : XS (s.setDrawn d0) := XS.same (u := s) (U := s.setDrawn d0) rfl hxs
  have hz0 : ZS (fun q => s.heap.size ≤ q) (s.setDrawn d0) s.heap := hz0.moved (U := s.setDrawn d0) (Vm.Alike.refl s.vm)
  have hbA : ¬ (fun q : Nat => s.heap.size ≤ q) b := Nat.not_le.mpr hbl
  have hA : ∀ q : Nat, s.heap.size ≤ q → (fun q : Nat => s.heap.size ≤ q) q := fun _ h => h
  obtain ⟨a, bt, f, cf, E, fb, cb, eb, s0, sc, S0, S1, ma, tw, as, sl, se, sv, ov, rfl, rfl, hg, ha, hs0, hs1⟩ := hI

  obtain ⟨hIv, t_, z, q, ht_, ht2_, hz, hz8, hq, hq2⟩ := id hg.1
  refine lv_aload_n hx hb dL_law_721 rfl (lv_at hl 1 rfl) ?_
  refine callM_i (As := []) (rest := []) ⟨hx, hb, hml, hown, hts⟩ (wrX6_clearRules l D cI cJ cZ cO g0 (bt 0) s0 a f cf E) (cwV 0 hts gL_law_X6_clearRules rfl rfl rfl (by decide +kernel) ⟨by show 0 + 1 ≤ R.frames; omega, by show 8 + (2 + 11) + 0 ≤ R.locals; omega⟩) hK hN (P_perm (pm_1 _ _ _ _ _ _ _) hP) (D_perm (pm_1 _ _ _ _ _ _ _) hD) hS hA 6 0 rfl rfl rfl rfl rfl hl.1 (Nat.le_of_ble_eq_true rfl) dL_law_722 ⟨by show cells + 0 ≤ R.cells; omega, by show slots + 0 ≤ R.slots; omega⟩ (fun H locs hP hD hS => ?_)
  replace hP := P_perm (pm_1 (giC g0 (a 0) (bt 0) s0) (scC cO s0 sc) (ocC cJ o ov) (simW cI a (a_h1_X7_clearRules f) cf E) (simW cI bt fb cb eb) (S0 ++ S1) (mdW cI cJ cZ ma E tw f as sl se sv)).symm hP
  replace hD := D_perm (pm_1 (giC g0 (a 0) (bt 0) s0) (scC cO s0 sc) (ocC cJ o ov) (simW cI a (a_h1_X7_clearRules f) cf E) (simW cI bt fb cb eb) (S0 ++ S1) (mdW cI cJ cZ ma E tw f as sl se sv)).symm hD
  refine lv_aload_n hx hb dL_law_725 rfl (lv_at hl 2 rfl) ?_
  refine callM_i (As := []) (rest := [.int (r_X7_clearRules f)]) ⟨hx, hb, hml, hown, hts⟩ (mX7_clearRules l D cI cJ cZ cO (ma 0) (ma 1) (ma 2) (ma 3) (ma 4) (ma 5) E tw f) (cwV 0 hts gL_law_X7_clearRules rfl rfl rfl (by decide +kernel) ⟨by show 0 + 1 ≤ R.frames; omega, by show 8 + (2 + 11) + 0 ≤ R.locals; omega⟩) hK hN (P_perm (pm_7 _ _ _ _ _ _ _ _ _) hP) (D_perm (pm_7 _ _ _ _ _ _ _ _ _) hD) hS hA 7 0 rfl rfl rfl rfl rfl hl.1 (Nat.le_of_ble_eq_true rfl) dL_law_726 ⟨by show cells + 0 + 0 ≤ R.cells; omega, by show slots + 0 + 0 ≤ R.slots; omega⟩ (fun H locs hP hD hS => ?_)
  replace hP := P_perm (pm_7 (giC g0 (a 0) (bt 0) s0) (scC cO s0 sc) (ocC cJ o ov) _ _ (simW cI a (a_h1_X7_clearRules f) cf E) (simW cI bt fb cb eb) (S0 ++ S1) _).symm hP
  replace hD := D_perm (pm_7 (giC g0 (a 0) (bt 0) s0) (scC cO s0 sc) (ocC cJ o ov) _ _ (simW cI a (a_h1_X7_clearRules f) cf E) (simW cI bt fb cb eb) (S0 ++ S1) _).symm hD
  refine lv_icmp_eq (tgt := 1414) hx hb dL_law_729 (by decide) (fun _ => ?_) (fun h => absurd rfl h)
  refine W.widen (k := cells + 20) (n := slots + 400) (by show cells + 0 + 0 ≤ cells + 20; omega) (by show slots + 0 + 0 ≤ slots + 400; omega) ?_
  have kp : Gd (a_h1_X7_clearRules f) (B + 1) ∧ AgN cf (a_h1_X7_clearRules f) := ⟨(kp_clearRules (c := cf) hg).1.up (by omega), (kp_clearRules hg).2⟩
  exact K _ H locs d0 ls ⟨a, bt, _, _, _, fb, cb, eb, s0, sc, S0, S1, ma, _, as, sl, se, sv, ov, rfl, rfl, kp.1.up (by omega), kp.2, hs0.up (by omega), hs1.up (by omega)⟩ hP hD hS hd0 hl

set_option maxHeartbeats 4000000 in
set_option maxRecDepth 100000 in
theorem kc_stop {D : va_G} {cI cJ cZ cO : ClassId} {b L g0 m0 o i B : Nat} {xs : Nat → Int32} {W1 : va_W} {d0 : Drawn} {ls : Array Slot} (C : LC p s m args c D cI cJ cZ cO b L xs) (hL : L ≤ 2560) (hi : i + 5 ≤ L) (hR : 10 ≤ R.frames ∧ 376 ≤ R.locals) (hc : cells + 20 ≤ R.cells ∧ slots + 400 ≤ R.slots)
    (hI : LI cI cJ cZ cO g0 m0 o B W1) (hP : va_P D vwCl W1 H) (hD : va_D (fun q => s.heap.size ≤ q) W1) (hS : va_S (fun q => s.heap.size ≤ q) s.heap H locs) (hd0 : s.drawn.sameBut d0 lw_cs) (hl : lv_has ls 9 (lvL b g0 m0 o i))
    (hB : B < 2147483648) (K : KN p l e R s m args below meth c D cI cJ cZ cO Q b g0 m0 o i B cells slots) : W p l e R (s.setDrawn d0) m args below meth c H locs cells slots Q (F0 m 747 ls []) := by
  obtain ⟨hx, hb, hml, hown, hts, hK, hN, hxs, hz0, hX, hbl⟩ := C
  have hts := dr_words hts d0
  have hown : (s.setDrawn d0).vm.findClass RL = some m.cls := hown
  have hX : va_X b L xs (s.setDrawn d0) s.heap := hX
  have hK : va_K D vwCl (tysK cI cJ cZ cO) (s.setDrawn d0) := hK
  have hN : NW (s.setDrawn d0) := NW.same (u := s) (U := s.setDrawn d0) rfl hN
  have hxs : XS (s.setDrawn d0) := XS.same (u := s) (U := s.setDrawn d0) rfl hxs
  have hz0 : ZS (fun q => s.heap.size ≤ q) (s.setDrawn d0) s.heap := hz0.moved (U := s.setDrawn d0) (Vm.Alike.refl s.vm)
  have hbA : ¬ (fun q : Nat => s.heap.size ≤ q) b := Nat.not_le.mpr hbl
  have hA : ∀ q : Nat, s.heap.size ≤ q → (fun q : Nat => s.heap.size ≤ q) q := fun _ h => h
  obtain ⟨a, bt, f, cf, E, fb, cb, eb, s0, sc, S0, S1, ma, tw, as, sl, se, sv, ov, rfl, rfl, hg, ha, hs0, hs1⟩ := hI

  obtain ⟨hIv, t_, z, q, ht_, ht2_, hz, hz8, hq, hq2⟩ := id hg.1
  refine lv_aload_n hx hb dL_law_747 rfl (lv_at hl 1 rfl) ?_
  refine callM_i (As := []) (rest := []) ⟨hx, hb, hml, hown, hts⟩ (wrX6_stop l D cI cJ cZ cO g0 (bt 0) s0 a f cf E q hq (by omega)) (cwV 0 hts gL_law_X6_stop rfl rfl rfl (by decide +kernel) ⟨by show 3 + 1 ≤ R.frames; omega, by show 8 + (1 + 11) + 66 ≤ R.locals; omega⟩) hK hN (P_perm (pm_1 _ _ _ _ _ _ _) hP) (D_perm (pm_1 _ _ _ _ _ _ _) hD) hS hA 6 0 rfl rfl rfl rfl rfl hl.1 (Nat.le_of_ble_eq_true rfl) dL_law_748 ⟨by show cells + 0 ≤ R.cells; omega, by show slots + 0 ≤ R.slots; omega⟩ (fun H locs hP hD hS => ?_)
  replace hP := P_perm (pm_1 (giC g0 (a 0) (bt 0) s0) (scC cO s0 sc) (ocC cJ o ov) (simW cI a (a_h1_X7_stop f q) cf E) (simW cI bt fb cb eb) (S0 ++ S1) (mdW cI cJ cZ ma E tw f as sl se sv)).symm hP
  replace hD := D_perm (pm_1 (giC g0 (a 0) (bt 0) s0) (scC cO s0 sc) (ocC cJ o ov) (simW cI a (a_h1_X7_stop f q) cf E) (simW cI bt fb cb eb) (S0 ++ S1) (mdW cI cJ cZ ma E tw f as sl se sv)).symm hD
  refine lv_aload_n hx hb dL_law_751 rfl (lv_at hl 2 rfl) ?_
  refine callM_i (As := []) (rest := [.int (r_X7_stop f)]) ⟨hx, hb, hml, hown, hts⟩ (mX7_stop l D cI cJ cZ cO (ma 0) (ma 1) (ma 2) (ma 3) (ma 4) (ma 5) E tw f q hq (by omega)) (cwV 0 hts gL_law_X7_stop rfl rfl rfl (by decide +kernel) ⟨by show 1 + 1 ≤ R.frames; omega, by show 8 + (2 + 11) + 21 ≤ R.locals; omega⟩) hK hN (P_perm (pm_7 _ _ _ _ _ _ _ _ _) hP) (D_perm (pm_7 _ _ _ _ _ _ _ _ _) hD) hS hA 7 0 rfl rfl rfl rfl rfl hl.1 (Nat.le_of_ble_eq_true rfl) dL_law_752 ⟨by show cells + 0 + 0 ≤ R.cells; omega, by show slots + 0 + 0 ≤ R.slots; omega⟩ (fun H locs hP hD hS => ?_)
  replace hP := P_perm (pm_7 (giC g0 (a 0) (bt 0) s0) (scC cO s0 sc) (ocC cJ o ov) _ _ (simW cI a (a_h1_X7_stop f q) cf E) (simW cI bt fb cb eb) (S0 ++ S1) _).symm hP
  replace hD := D_perm (pm_7 (giC g0 (a 0) (bt 0) s0) (scC cO s0 sc) (ocC cJ o ov) _ _ (simW cI a (a_h1_X7_stop f q) cf E) (simW cI bt fb cb eb) (S0 ++ S1) _).symm hD
  refine lv_icmp_eq (tgt := 1414) hx hb dL_law_755 (by decide) (fun _ => ?_) (fun h => absurd rfl h)
  refine W.widen (k := cells + 20) (n := slots + 400) (by show cells + 0 + 0 ≤ cells + 20; omega) (by show slots + 0 + 0 ≤ slots + 400; omega) ?_
  have kp : Gd (a_h1_X7_stop f q) (B + 1) ∧ AgN cf (a_h1_X7_stop f q) := kp_stop hq hg ha
  exact K _ H locs d0 ls ⟨a, bt, _, _, _, fb, cb, eb, s0, sc, S0, S1, ma, _, as, sl, se, sv, ov, rfl, rfl, kp.1.up (by omega), kp.2, hs0.up (by omega), hs1.up (by omega)⟩ hP hD hS hd0 hl
end LAW3
