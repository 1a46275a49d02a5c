section LAW4
variable {p : Program} {l : Launch} {e : Env} {R : Room} {s : State} {m : MethodId} {args : Array Value} {below : List Frame} {meth : Method} {c : Code} {H : Heap} {locs : List Loc} {cells slots : Nat} {Q : State → Prop}
set_option maxHeartbeats 4000000 in
set_option maxRecDepth 100000 in
theorem kc_energy {D : va_G} {cI cJ cZ cO : ClassId} {b L g0 m0 o i B : Nat} {xs : Nat → Int32} {W1 : va_W} {d0 : Drawn} {ls : Array Slot} (C : LC p s m args c D cI cJ cZ cO b L xs) (hL : L ≤ 2560) (hi : i + 5 ≤ L) (hR : 10 ≤ R.frames ∧ 376 ≤ R.locals) (hc : cells + 20 ≤ R.cells ∧ slots + 400 ≤ R.slots)
    (hI : LI cI cJ cZ cO g0 m0 o B W1) (hP : va_P D vwCl W1 H) (hD : va_D (fun q => s.heap.size ≤ q) W1) (hS : va_S (fun q => s.heap.size ≤ q) s.heap H locs) (hd0 : s.drawn.sameBut d0 lw_cs) (hl : lv_has ls 9 (lvL b g0 m0 o i))
    (K : KN p l e R s m args below meth c D cI cJ cZ cO Q b g0 m0 o i B cells slots) : W p l e R (s.setDrawn d0) m args below meth c H locs cells slots Q (F0 m 954 ls []) := by
  obtain ⟨hx, hb, hml, hown, hts, hK, hN, hxs, hz0, hX, hbl⟩ := C
  have hts := dr_words hts d0
  have hown : (s.setDrawn d0).vm.findClass RL = some m.cls := hown
  have hX : va_X b L xs (s.setDrawn d0) s.heap := hX
  have hK : va_K D vwCl (tysK cI cJ cZ cO) (s.setDrawn d0) := hK
  have hN : NW (s.setDrawn d0) := NW.same (u := s) (U := s.setDrawn d0) rfl hN
  have hxs : XS (s.setDrawn d0) := XS.same (u := s) (U := s.setDrawn d0) rfl hxs
  have hz0 : ZS (fun q => s.heap.size ≤ q) (s.setDrawn d0) s.heap := hz0.moved (U := s.setDrawn d0) (Vm.Alike.refl s.vm)
  have hbA : ¬ (fun q : Nat => s.heap.size ≤ q) b := Nat.not_le.mpr hbl
  have hA : ∀ q : Nat, s.heap.size ≤ q → (fun q : Nat => s.heap.size ≤ q) q := fun _ h => h
  obtain ⟨a, bt, f, cf, E, fb, cb, eb, s0, sc, S0, S1, ma, tw, as, sl, se, sv, ov, rfl, rfl, hg, ha, hs0, hs1⟩ := hI

  refine lv_aload_n hx hb dL_law_954 rfl (lv_at hl 1 rfl) ?_
  refine callM_l (As := []) (rest := []) ⟨hx, hb, hml, hown, hts⟩ (wrX6_energy l D cI cJ cZ cO g0 (bt 0) s0 a f cf E) (cwV 0 hts gL_law_X6_energy rfl rfl rfl (by decide +kernel) ⟨by show 0 + 1 ≤ R.frames; omega, by show 8 + (1 + 11) + 0 ≤ R.locals; omega⟩) hK hN (P_perm (pm_1 _ _ _ _ _ _ _) hP) (D_perm (pm_1 _ _ _ _ _ _ _) hD) hS hA 6 0 rfl rfl rfl rfl rfl hl.1 (Nat.le_of_ble_eq_true rfl) dL_law_955 ⟨by show cells + 0 ≤ R.cells; omega, by show slots + 0 ≤ R.slots; omega⟩ (fun H locs hP hD hS => ?_)
  replace hP := P_perm (pm_1 (giC g0 (a 0) (bt 0) s0) (scC cO s0 sc) (ocC cJ o ov) (simW cI a f cf E) (simW cI bt fb cb eb) (S0 ++ S1) (mdW cI cJ cZ ma E tw f as sl se sv)).symm hP
  replace hD := D_perm (pm_1 (giC g0 (a 0) (bt 0) s0) (scC cO s0 sc) (ocC cJ o ov) (simW cI a f cf E) (simW cI bt fb cb eb) (S0 ++ S1) (mdW cI cJ cZ ma E tw f as sl se sv)).symm hD
  refine lv_aload_n hx hb dL_law_958 rfl (lv_at hl 2 rfl) ?_
  refine callM_l (As := []) (rest := [.long E]) ⟨hx, hb, hml, hown, hts⟩ (mX7_energy l D cI cJ cZ cO (ma 0) (ma 1) (ma 2) (ma 3) (ma 4) (ma 5) E tw) (cwV 0 hts gL_law_X7_energy rfl rfl rfl (by decide +kernel) ⟨by show 0 + 1 ≤ R.frames; omega, by show 8 + (1 + 11) + 0 ≤ R.locals; omega⟩) hK hN (P_perm (pm_8 _ _ _ _ _ _ _ _) hP) (D_perm (pm_8 _ _ _ _ _ _ _ _) hD) hS hA 7 0 rfl rfl rfl rfl rfl hl.1 (Nat.le_of_ble_eq_true rfl) dL_law_959 ⟨by show cells + 0 + 0 ≤ R.cells; omega, by show slots + 0 + 0 ≤ R.slots; omega⟩ (fun H locs hP hD hS => ?_)
  replace hP := P_perm (pm_8 (giC g0 (a 0) (bt 0) s0) (scC cO s0 sc) (ocC cJ o ov) _ (simW cI a f cf E) (simW cI bt fb cb eb) (S0 ++ S1) _).symm hP
  replace hD := D_perm (pm_8 (giC g0 (a 0) (bt 0) s0) (scC cO s0 sc) (ocC cJ o ov) _ (simW cI a f cf E) (simW cI bt fb cb eb) (S0 ++ S1) _).symm hD
  refine W.lcmp hx hb dL_law_962 ?_
  refine lv_if_eq (tgt := 1414) hx hb dL_law_963 (by decide) (fun _ => ?_) (fun w => absurd (by unfold lg_cmp; simp) w)
  refine W.widen (k := cells + 20) (n := slots + 400) (by show cells + 0 + 0 ≤ cells + 20; omega) (by show slots + 0 + 0 ≤ slots + 400; omega) ?_
  exact K _ H locs d0 ls ⟨a, bt, _, _, _, fb, cb, eb, s0, sc, S0, S1, ma, _, as, sl, se, sv, ov, rfl, rfl, hg.up (by omega), ha, hs0.up (by omega), hs1.up (by omega)⟩ hP hD hS hd0 hl
end LAW4
