section LAW5
section PERM9
variable (gi s0c oc md at_ as_ : Nat × va_E) (P T SV M : va_W)
/-- the reference's what-if calls -/
theorem pm_9 : (LB gi s0c oc P T SV (md :: at_ :: as_ :: M)).Perm ((gi :: s0c :: oc :: (P ++ (T ++ (SV ++ M)))) ++ [md, at_, as_]) := by
  refine perm_cnt (fun dec x => ?_)
  unfold LB
  simp only [List.count_cons, List.count_append, List.count_nil]
  omega
end PERM9
variable {p : Program} {l : Launch} {e : Env} {R : Room} {s : State} {m : MethodId} {args : Array Value} {below : List Frame} {meth : Method} {c : Code} {H : Heap} {locs : List Loc} {cells slots : Nat} {Q : State → Prop}
set_option maxHeartbeats 4000000 in
set_option maxRecDepth 100000 in
theorem kc_advance {D : va_G} {cI cJ cZ cO : ClassId} {b L g0 m0 o i B : Nat} {xs : Nat → Int32} {W1 : va_W} {d0 : Drawn} {ls : Array Slot} (hlt : l.stackTraces = false) (C : LC p s m args c D cI cJ cZ cO b L xs) (hL : L ≤ 2560) (hi : i + 5 ≤ L) (hR : 10 ≤ R.frames ∧ 376 ≤ R.locals) (hc : cells + 20 ≤ R.cells ∧ slots + 400 ≤ R.slots)
    (hI : LI cI cJ cZ cO g0 m0 o B W1) (hP : va_P D vwCl W1 H) (hD : va_D (fun q => s.heap.size ≤ q) W1) (hS : va_S (fun q => s.heap.size ≤ q) s.heap H locs) (hd0 : s.drawn.sameBut d0 lw_cs) (hl : lv_has ls 9 (lvL b g0 m0 o i))
    (hB : B + 2001 < 2147483647) (K : KN p l e R s m args below meth c D cI cJ cZ cO Q b g0 m0 o i B cells slots) : W p l e R (s.setDrawn d0) m args below meth c H locs cells slots Q (F0 m 760 ls []) := by
  obtain ⟨hx, hb, hml, hown, hts, hK, hN, hxs, hz0, hX, hbl⟩ := C
  have hts := dr_words hts d0
  have hown : (s.setDrawn d0).vm.findClass RL = some m.cls := hown
  have hX : va_X b L xs (s.setDrawn d0) s.heap := hX
  have hK : va_K D vwCl (tysK cI cJ cZ cO) (s.setDrawn d0) := hK
  have hN : NW (s.setDrawn d0) := NW.same (u := s) (U := s.setDrawn d0) rfl hN
  have hxs : XS (s.setDrawn d0) := XS.same (u := s) (U := s.setDrawn d0) rfl hxs
  have hz0 : ZS (fun q => s.heap.size ≤ q) (s.setDrawn d0) s.heap := hz0.moved (U := s.setDrawn d0) (Vm.Alike.refl s.vm)
  have hbA : ¬ (fun q : Nat => s.heap.size ≤ q) b := Nat.not_le.mpr hbl
  have hA : ∀ q : Nat, s.heap.size ≤ q → (fun q : Nat => s.heap.size ≤ q) q := fun _ h => h
  obtain ⟨a, bt, f, cf, E, fb, cb, eb, s0, sc, S0, S1, ma, tw, as, sl, se, sv, ov, rfl, rfl, hg, ha, hs0, hs1⟩ := hI

  refine lv_aload_n hx hb dL_law_760 rfl (lv_at hl 1 rfl) ?_
  refine lv_aload_n hx hb dL_law_761 rfl (lv_at hl 0 rfl) ?_
  refine lv_iload hx hb dL_law_762 (lv_at hl 4 rfl) ?_
  refine lv_iconst (v := 1) hx hb dL_law_764 (by decide) ?_
  refine lv_iadd hx hb dL_law_765 ?_
  refine r_scr hx hb hX hbl hbA hS (i := i + 1) (by omega) hL (nI_1 i) dL_law_766 ?_
  refine lv_aload_n hx hb dL_law_767 rfl (lv_at hl 3 rfl) ?_
  obtain ⟨p0, e0⟩ : ∃ x, xs (i + 1) = x := ⟨_, rfl⟩
  rw [e0]
  refine callH (hh := _) (As := [.ref g0, .int p0, .ref o]) (rest := []) ⟨hx, hb, hml, hown, hts⟩ (hL_advance l D cI cJ cZ cO g0 p0 o ov _ rfl (by decide) (giC g0 (a 0) (bt 0) s0 :: simW cI a f cf E) (giC g0 (a 0) (bt 0) s0 :: simW cI a (a_h1_X7_advance f p0) (if r_X6_outside p0 1 2000 = 0 then itc f cf p0.toNatClampNeg else cf) (v_h0_energy_X7_advance E f p0)) (v_h0_thrown_X7_advance p0) (r_X7_advance f p0) _ rfl (by unfold v_h0_thrown_X7_advance; (repeat' split) <;> first | exact Or.inl rfl | exact Or.inr rfl) (wrX6_advance l hlt D cI cJ cZ cO g0 (bt 0) s0 a f cf E p0 B hg.1 (by omega) ha)) (vx_cwSW 3 hts gL_law_L_advance rfl rfl rfl (by decide +kernel) ⟨by show 7 + 1 ≤ R.frames; omega, by show 8 + (4 + 11) + 230 ≤ R.locals; omega⟩) hK hN hxs hz0 (P_perm (pm_2 _ _ _ _ _ _ _) hP) (D_perm (pm_2 _ _ _ _ _ _ _) hD) hS hA rfl rfl hl.1 (Nat.le_of_ble_eq_true rfl) dL_law_768 ⟨by show cells + 1 ≤ R.cells; omega, by show slots + 6 ≤ R.slots; omega⟩ (fun u H locs hP hD hS => ?_)
  replace hP := P_perm (pm_2 (giC g0 (a 0) (bt 0) s0) (scC cO s0 sc) (ocC cJ o (if (v_h0_thrown_X7_advance p0) = 0 then vp_updL ov 0 (r_X7_advance f p0).toInt64 else ov)) (simW cI a (a_h1_X7_advance f p0) (if r_X6_outside p0 1 2000 = 0 then itc f cf p0.toNatClampNeg else cf) (v_h0_energy_X7_advance E f p0)) (simW cI bt fb cb eb) (S0 ++ S1) (mdW cI cJ cZ ma E tw f as sl se sv)).symm hP
  replace hD := D_perm (pm_2 (giC g0 (a 0) (bt 0) s0) (scC cO s0 sc) (ocC cJ o (if (v_h0_thrown_X7_advance p0) = 0 then vp_updL ov 0 (r_X7_advance f p0).toInt64 else ov)) (simW cI a (a_h1_X7_advance f p0) (if r_X6_outside p0 1 2000 = 0 then itc f cf p0.toNatClampNeg else cf) (v_h0_energy_X7_advance E f p0)) (simW cI bt fb cb eb) (S0 ++ S1) (mdW cI cJ cZ ma E tw f as sl se sv)).symm hD
  refine lv_istore (lv' := (5, .int (v_h0_thrown_X7_advance p0)) :: lvL b g0 (ma 0) o i) hx hb dL_law_771 hl (by decide) rfl (fun ls hl => ?_)
  refine lv_aload_n hx hb dL_law_773 rfl (lv_at hl 3 rfl) ?_
  refine lv_aload_n hx hb dL_law_774 rfl (lv_at hl 1 rfl) ?_
  refine lv_iload hx hb dL_law_775 (lv_at hl 5 rfl) ?_
  refine lv_iconst (v := 1) hx hb dL_law_777 (by decide) ?_
  refine lv_iadd hx hb dL_law_778 ?_
  refine r_scr hx hb hX hbl hbA hS (i := i + 1) (by omega) hL (nI_1 i) dL_law_779 ?_
  rw [e0]
  refine callM_i (As := [.int p0]) (rest := []) ⟨hx, hb, hml, hown, hts⟩ (mX7_advance l D cI cJ cZ cO (ma 0) (ma 1) (ma 2) (ma 3) (ma 4) (ma 5) E tw f p0 B hg.1 (by omega)) (cwV 1 hts gL_law_X7_advance rfl rfl rfl (by decide +kernel) ⟨by show 4 + 1 ≤ R.frames; omega, by show 8 + (3 + 11) + 84 ≤ R.locals; omega⟩) hK hN (P_perm (pm_7 _ _ _ _ _ _ _ _ _ ) hP) (D_perm (pm_7 _ _ _ _ _ _ _ _ _ ) hD) hS hA 7 0 rfl rfl rfl rfl rfl hl.1 (Nat.le_of_ble_eq_true rfl) dL_law_780 ⟨by show cells + 1 + 0 ≤ R.cells; omega, by show slots + 6 + 0 ≤ R.slots; omega⟩ (fun H locs hP hD hS => ?_)
  replace hP := P_perm (pm_7 (giC g0 (a 0) (bt 0) s0) (scC cO s0 sc) (ocC cJ o (if (v_h0_thrown_X7_advance p0) = 0 then vp_updL ov 0 (r_X7_advance f p0).toInt64 else ov)) _ _ (simW cI a (a_h1_X7_advance f p0) (if r_X6_outside p0 1 2000 = 0 then itc f cf p0.toNatClampNeg else cf) (v_h0_energy_X7_advance E f p0)) (simW cI bt fb cb eb) (S0 ++ S1) _).symm hP
  replace hD := D_perm (pm_7 (giC g0 (a 0) (bt 0) s0) (scC cO s0 sc) (ocC cJ o (if (v_h0_thrown_X7_advance p0) = 0 then vp_updL ov 0 (r_X7_advance f p0).toInt64 else ov)) _ _ (simW cI a (a_h1_X7_advance f p0) (if r_X6_outside p0 1 2000 = 0 then itc f cf p0.toNatClampNeg else cf) (v_h0_energy_X7_advance E f p0)) (simW cI bt fb cb eb) (S0 ++ S1) _).symm hD
  refine lv_istore (lv' := (6, .int (r_X7_advance f p0)) :: (5, .int (v_h0_thrown_X7_advance p0)) :: lvL b g0 (ma 0) o i) hx hb dL_law_783 hl (by decide) rfl (fun ls hl => ?_)
  refine lv_aload_n hx hb dL_law_785 rfl (lv_at hl 4 rfl) ?_
  refine callM_i (As := []) (rest := []) ⟨hx, hb, hml, hown, hts⟩ (mX7_thrown l D cI cJ cZ cO (ma 0) (ma 1) (ma 2) (ma 3) (ma 4) (ma 5) (v_h0_energy_X7_advance E f p0) (v_h0_thrown_X7_advance p0)) (cwV 0 hts gL_law_X7_thrown rfl rfl rfl (by decide +kernel) ⟨by show 0 + 1 ≤ R.frames; omega, by show 8 + (1 + 11) + 0 ≤ R.locals; omega⟩) hK hN (P_perm (pm_8 _ _ _ _ _ _ _ _) hP) (D_perm (pm_8 _ _ _ _ _ _ _ _) hD) hS hA 7 0 rfl rfl rfl rfl rfl hl.1 (Nat.le_of_ble_eq_true rfl) dL_law_786 ⟨by show cells + 1 + 0 + 0 ≤ R.cells; omega, by show slots + 6 + 0 + 0 ≤ R.slots; omega⟩ (fun H locs hP hD hS => ?_)
  replace hP := P_perm (pm_8 (giC g0 (a 0) (bt 0) s0) (scC cO s0 sc) (ocC cJ o (if (v_h0_thrown_X7_advance p0) = 0 then vp_updL ov 0 (r_X7_advance f p0).toInt64 else ov)) _ (simW cI a (a_h1_X7_advance f p0) (if r_X6_outside p0 1 2000 = 0 then itc f cf p0.toNatClampNeg else cf) (v_h0_energy_X7_advance E f p0)) (simW cI bt fb cb eb) (S0 ++ S1) _).symm hP
  replace hD := D_perm (pm_8 (giC g0 (a 0) (bt 0) s0) (scC cO s0 sc) (ocC cJ o (if (v_h0_thrown_X7_advance p0) = 0 then vp_updL ov 0 (r_X7_advance f p0).toInt64 else ov)) _ (simW cI a (a_h1_X7_advance f p0) (if r_X6_outside p0 1 2000 = 0 then itc f cf p0.toNatClampNeg else cf) (v_h0_energy_X7_advance E f p0)) (simW cI bt fb cb eb) (S0 ++ S1) _).symm hD
  refine lv_iload hx hb dL_law_789 (lv_at hl 1 rfl) ?_
  refine lv_icmp_eq (tgt := 796) hx hb dL_law_791 (by decide) (fun _ => ?_) (fun h => absurd rfl h)
  have hend : W p l e R (s.setDrawn d0) m args below meth c H locs (cells + 1 + 0 + 0) (slots + 6 + 0 + 0) Q (F0 m 813 ls []) := by
    refine lv_goto (tgt := 1414) hx hb dL_law_813 (by decide) ?_
    refine W.widen (k := cells + 20) (n := slots + 400) (by show cells + 1 + 0 + 0 ≤ cells + 20; omega) (by show slots + 6 + 0 + 0 ≤ slots + 400; omega) ?_
    have kp : Gd (a_h1_X7_advance f p0) (B + 2000) ∧ AgN (if r_X6_outside p0 1 2000 = 0 then itc f cf p0.toNatClampNeg else cf) (a_h1_X7_advance f p0) := kp_advance hg ha (by omega)
    exact K _ H locs d0 ls ⟨a, bt, _, _, _, fb, cb, eb, s0, sc, S0, S1, ma, _, as, sl, se, sv, _, rfl, rfl, kp.1.up (by omega), kp.2, hs0.up (by omega), hs1.up (by omega)⟩ hP hD hS hd0 (lv_sub hl [2, 3, 4, 5, 6] rfl)
  refine lv_iload hx hb dL_law_796 (lv_at hl 1 rfl) ?_
  refine lv_if_ne (tgt := 813) hx hb dL_law_798 (by decide) (fun _ => hend) (fun hk0 => ?_)
  refine lv_aload_n hx hb dL_law_801 rfl (lv_at hl 5 rfl) ?_
  refine lv_iconst (v := 0) hx hb dL_law_802 (by decide) ?_
  refine r_lald hx hb hK (P_perm (pm_6 _ _ _ _ _ _ _) hP) 0 1 rfl rfl 0 rfl (Nat.le_of_ble_eq_true rfl) (Nat.le_of_ble_eq_true rfl) dL_law_803 ?_
  rw [if_pos (Classical.byContradiction fun w => w (by first | exact hk0 | exact Classical.not_not.mp hk0))]
  refine lv_iload hx hb dL_law_804 (lv_at hl 0 rfl) ?_
  refine lv_i2l hx hb dL_law_806 rfl ?_
  refine W.lcmp hx hb dL_law_807 ?_
  refine lv_if_eq (tgt := 813) hx hb dL_law_808 (by decide) (fun _ => hend) (fun w => absurd (by unfold lg_cmp; simp [vp_updL]) w)

set_option maxHeartbeats 4000000 in
set_option maxRecDepth 100000 in
theorem kc_relockTime {D : va_G} {cI cJ cZ cO : ClassId} {b L g0 m0 o i B : Nat} {xs : Nat → Int32} {W1 : va_W} {d0 : Drawn} {ls : Array Slot} (hlt : l.stackTraces = false) (C : LC p s m args c D cI cJ cZ cO b L xs) (hL : L ≤ 2560) (hi : i + 5 ≤ L) (hR : 10 ≤ R.frames ∧ 376 ≤ R.locals) (hc : cells + 20 ≤ R.cells ∧ slots + 400 ≤ R.slots)
    (hI : LI cI cJ cZ cO g0 m0 o B W1) (hP : va_P D vwCl W1 H) (hD : va_D (fun q => s.heap.size ≤ q) W1) (hS : va_S (fun q => s.heap.size ≤ q) s.heap H locs) (hd0 : s.drawn.sameBut d0 lw_cs) (hl : lv_has ls 9 (lvL b g0 m0 o i))
    (hB : B + 2001 < 2147483647) (K : KN p l e R s m args below meth c D cI cJ cZ cO Q b g0 m0 o i B cells slots) : W p l e R (s.setDrawn d0) m args below meth c H locs cells slots Q (F0 m 1274 ls []) := by
  obtain ⟨hx, hb, hml, hown, hts, hK, hN, hxs, hz0, hX, hbl⟩ := C
  have hts := dr_words hts d0
  have hown : (s.setDrawn d0).vm.findClass RL = some m.cls := hown
  have hX : va_X b L xs (s.setDrawn d0) s.heap := hX
  have hK : va_K D vwCl (tysK cI cJ cZ cO) (s.setDrawn d0) := hK
  have hN : NW (s.setDrawn d0) := NW.same (u := s) (U := s.setDrawn d0) rfl hN
  have hxs : XS (s.setDrawn d0) := XS.same (u := s) (U := s.setDrawn d0) rfl hxs
  have hz0 : ZS (fun q => s.heap.size ≤ q) (s.setDrawn d0) s.heap := hz0.moved (U := s.setDrawn d0) (Vm.Alike.refl s.vm)
  have hbA : ¬ (fun q : Nat => s.heap.size ≤ q) b := Nat.not_le.mpr hbl
  have hA : ∀ q : Nat, s.heap.size ≤ q → (fun q : Nat => s.heap.size ≤ q) q := fun _ h => h
  obtain ⟨a, bt, f, cf, E, fb, cb, eb, s0, sc, S0, S1, ma, tw, as, sl, se, sv, ov, rfl, rfl, hg, ha, hs0, hs1⟩ := hI

  refine lv_aload_n hx hb dL_law_1274 rfl (lv_at hl 1 rfl) ?_
  refine lv_aload_n hx hb dL_law_1275 rfl (lv_at hl 0 rfl) ?_
  refine lv_iload hx hb dL_law_1276 (lv_at hl 4 rfl) ?_
  refine lv_iconst (v := 1) hx hb dL_law_1278 (by decide) ?_
  refine lv_iadd hx hb dL_law_1279 ?_
  refine r_scr hx hb hX hbl hbA hS (i := i + 1) (by omega) hL (nI_1 i) dL_law_1280 ?_
  refine lv_aload_n hx hb dL_law_1281 rfl (lv_at hl 0 rfl) ?_
  refine lv_iload hx hb dL_law_1282 (lv_at hl 4 rfl) ?_
  refine lv_iconst (v := 2) hx hb dL_law_1284 (by decide) ?_
  refine lv_iadd hx hb dL_law_1285 ?_
  refine r_scr hx hb hX hbl hbA hS (i := i + 2) (by omega) hL (nI_add i 2) dL_law_1286 ?_
  refine lv_aload_n hx hb dL_law_1287 rfl (lv_at hl 3 rfl) ?_
  obtain ⟨p0, e0⟩ : ∃ x, xs (i + 1) = x := ⟨_, rfl⟩
  obtain ⟨p1, e1⟩ : ∃ x, xs (i + 2) = x := ⟨_, rfl⟩
  rw [e0, e1]
  refine callH (hh := _) (As := [.ref g0, .int p0, .int p1, .ref o]) (rest := []) ⟨hx, hb, hml, hown, hts⟩ (hL_relockTime l D cI cJ cZ cO g0 p0 p1 o ov _ rfl (by decide) (giC g0 (a 0) (bt 0) s0 :: (simW cI a f cf E ++ simW cI bt fb cb eb)) _ (v_h0_thrown_X7_relockTime p0 p1) (r_X7_relockTime f p0 p1) _ rfl (by unfold v_h0_thrown_X7_relockTime; (repeat' split) <;> first | exact Or.inl rfl | exact Or.inr rfl) (wrX6_relockTime l hlt D cI cJ cZ cO g0 s0 a bt f cf E fb cb eb p0 p1 B hg.1 (by omega) ha)) (vx_cwSW 4 hts gL_law_L_relockTime rfl rfl rfl (by decide +kernel) ⟨by show 7 + 1 ≤ R.frames; omega, by show 8 + (5 + 11) + 230 ≤ R.locals; omega⟩) hK hN hxs hz0 (P_perm (pm_3 _ _ _ _ _ _ _) hP) (D_perm (pm_3 _ _ _ _ _ _ _) hD) hS hA rfl rfl hl.1 (Nat.le_of_ble_eq_true rfl) dL_law_1288 ⟨by show cells + 1 ≤ R.cells; omega, by show slots + 6 ≤ R.slots; omega⟩ (fun u H locs hP hD hS => ?_)
  replace hP := P_perm (pm_3 (giC g0 (a 0) (bt 0) s0) (scC cO s0 sc) (ocC cJ o (if (v_h0_thrown_X7_relockTime p0 p1) = 0 then vp_updL ov 0 (r_X7_relockTime f p0 p1).toInt64 else ov)) (simW cI a f cf E) _ (S0 ++ S1) (mdW cI cJ cZ ma E tw f as sl se sv)).symm hP
  replace hD := D_perm (pm_3 (giC g0 (a 0) (bt 0) s0) (scC cO s0 sc) (ocC cJ o (if (v_h0_thrown_X7_relockTime p0 p1) = 0 then vp_updL ov 0 (r_X7_relockTime f p0 p1).toInt64 else ov)) (simW cI a f cf E) _ (S0 ++ S1) (mdW cI cJ cZ ma E tw f as sl se sv)).symm hD
  refine lv_istore (lv' := (5, .int (v_h0_thrown_X7_relockTime p0 p1)) :: lvL b g0 (ma 0) o i) hx hb dL_law_1291 hl (by decide) rfl (fun ls hl => ?_)
  refine lv_aload_n hx hb dL_law_1293 rfl (lv_at hl 3 rfl) ?_
  refine lv_aload_n hx hb dL_law_1294 rfl (lv_at hl 1 rfl) ?_
  refine lv_iload hx hb dL_law_1295 (lv_at hl 5 rfl) ?_
  refine lv_iconst (v := 1) hx hb dL_law_1297 (by decide) ?_
  refine lv_iadd hx hb dL_law_1298 ?_
  refine r_scr hx hb hX hbl hbA hS (i := i + 1) (by omega) hL (nI_1 i) dL_law_1299 ?_
  refine lv_aload_n hx hb dL_law_1300 rfl (lv_at hl 1 rfl) ?_
  refine lv_iload hx hb dL_law_1301 (lv_at hl 5 rfl) ?_
  refine lv_iconst (v := 2) hx hb dL_law_1303 (by decide) ?_
  refine lv_iadd hx hb dL_law_1304 ?_
  refine r_scr hx hb hX hbl hbA hS (i := i + 2) (by omega) hL (nI_add i 2) dL_law_1305 ?_
  rw [e0, e1]
  refine callM_i (As := [.int p0, .int p1]) (rest := []) ⟨hx, hb, hml, hown, hts⟩ (mX7_relockTime l D cI cJ cZ cO (ma 0) (ma 1) (ma 2) (ma 3) (ma 4) (ma 5) E tw f as p0 p1 B hg.1 (by omega)) (cwV 2 hts gL_law_X7_relockTime rfl rfl rfl (by decide +kernel) ⟨by show 4 + 1 ≤ R.frames; omega, by show 8 + (5 + 11) + 84 ≤ R.locals; omega⟩) hK hN (P_perm (pm_9 _ _ _ _ _ _ _ _ _ _ ) hP) (D_perm (pm_9 _ _ _ _ _ _ _ _ _ _ ) hD) hS hA 7 0 rfl rfl rfl rfl rfl hl.1 (Nat.le_of_ble_eq_true rfl) dL_law_1306 ⟨by show cells + 1 + 0 ≤ R.cells; omega, by show slots + 6 + 0 ≤ R.slots; omega⟩ (fun H locs hP hD hS => ?_)
  replace hP := P_perm (pm_9 (giC g0 (a 0) (bt 0) s0) (scC cO s0 sc) (ocC cJ o (if (v_h0_thrown_X7_relockTime p0 p1) = 0 then vp_updL ov 0 (r_X7_relockTime f p0 p1).toInt64 else ov)) _ _ _ (simW cI a f cf E) _ (S0 ++ S1) _).symm hP
  replace hD := D_perm (pm_9 (giC g0 (a 0) (bt 0) s0) (scC cO s0 sc) (ocC cJ o (if (v_h0_thrown_X7_relockTime p0 p1) = 0 then vp_updL ov 0 (r_X7_relockTime f p0 p1).toInt64 else ov)) _ _ _ (simW cI a f cf E) _ (S0 ++ S1) _).symm hD
  refine lv_istore (lv' := (6, .int (r_X7_relockTime f p0 p1)) :: (5, .int (v_h0_thrown_X7_relockTime p0 p1)) :: lvL b g0 (ma 0) o i) hx hb dL_law_1309 hl (by decide) rfl (fun ls hl => ?_)
  refine lv_aload_n hx hb dL_law_1311 rfl (lv_at hl 4 rfl) ?_
  refine callM_i (As := []) (rest := []) ⟨hx, hb, hml, hown, hts⟩ (mX7_thrown l D cI cJ cZ cO (ma 0) (ma 1) (ma 2) (ma 3) (ma 4) (ma 5) E (v_h0_thrown_X7_relockTime p0 p1)) (cwV 0 hts gL_law_X7_thrown rfl rfl rfl (by decide +kernel) ⟨by show 0 + 1 ≤ R.frames; omega, by show 8 + (1 + 11) + 0 ≤ R.locals; omega⟩) hK hN (P_perm (pm_8 _ _ _ _ _ _ _ _) hP) (D_perm (pm_8 _ _ _ _ _ _ _ _) hD) hS hA 7 0 rfl rfl rfl rfl rfl hl.1 (Nat.le_of_ble_eq_true rfl) dL_law_1312 ⟨by show cells + 1 + 0 + 0 ≤ R.cells; omega, by show slots + 6 + 0 + 0 ≤ R.slots; omega⟩ (fun H locs hP hD hS => ?_)
  replace hP := P_perm (pm_8 (giC g0 (a 0) (bt 0) s0) (scC cO s0 sc) (ocC cJ o (if (v_h0_thrown_X7_relockTime p0 p1) = 0 then vp_updL ov 0 (r_X7_relockTime f p0 p1).toInt64 else ov)) _ (simW cI a f cf E) _ (S0 ++ S1) _).symm hP
  replace hD := D_perm (pm_8 (giC g0 (a 0) (bt 0) s0) (scC cO s0 sc) (ocC cJ o (if (v_h0_thrown_X7_relockTime p0 p1) = 0 then vp_updL ov 0 (r_X7_relockTime f p0 p1).toInt64 else ov)) _ (simW cI a f cf E) _ (S0 ++ S1) _).symm hD
  refine lv_iload hx hb dL_law_1315 (lv_at hl 1 rfl) ?_
  refine lv_icmp_eq (tgt := 1322) hx hb dL_law_1317 (by decide) (fun _ => ?_) (fun h => absurd rfl h)
  have hend : W p l e R (s.setDrawn d0) m args below meth c H locs (cells + 1 + 0 + 0) (slots + 6 + 0 + 0) Q (F0 m 1339 ls []) := by
    refine lv_goto (tgt := 1414) hx hb dL_law_1339 (by decide) ?_
    refine W.widen (k := cells + 20) (n := slots + 400) (by show cells + 1 + 0 + 0 ≤ cells + 20; omega) (by show slots + 6 + 0 + 0 ≤ slots + 400; omega) ?_
    have kp : Gd f B ∧ AgN cf f := ⟨hg, ha⟩
    exact K _ H locs d0 ls ⟨a, bt, f, cf, E, _, _, _, s0, sc, S0, S1, ma, _, _, sl, se, sv, _, rfl, rfl, kp.1.up (by omega), kp.2, hs0.up (by omega), hs1.up (by omega)⟩ hP hD hS hd0 (lv_sub hl [2, 3, 4, 5, 6] rfl)
  refine lv_iload hx hb dL_law_1322 (lv_at hl 1 rfl) ?_
  refine lv_if_ne (tgt := 1339) hx hb dL_law_1324 (by decide) (fun _ => hend) (fun hk0 => ?_)
  refine lv_aload_n hx hb dL_law_1327 rfl (lv_at hl 5 rfl) ?_
  refine lv_iconst (v := 0) hx hb dL_law_1328 (by decide) ?_
  refine r_lald hx hb hK (P_perm (pm_6 _ _ _ _ _ _ _) hP) 0 1 rfl rfl 0 rfl (Nat.le_of_ble_eq_true rfl) (Nat.le_of_ble_eq_true rfl) dL_law_1329 ?_
  rw [if_pos (Classical.byContradiction fun w => w (by first | exact hk0 | exact Classical.not_not.mp hk0))]
  refine lv_iload hx hb dL_law_1330 (lv_at hl 0 rfl) ?_
  refine lv_i2l hx hb dL_law_1332 rfl ?_
  refine W.lcmp hx hb dL_law_1333 ?_
  refine lv_if_eq (tgt := 1339) hx hb dL_law_1334 (by decide) (fun _ => hend) (fun w => absurd (by unfold lg_cmp; simp [vp_updL]) w)

set_option maxHeartbeats 4000000 in
set_option maxRecDepth 100000 in
theorem kc_islandTime {D : va_G} {cI cJ cZ cO : ClassId} {b L g0 m0 o i B : Nat} {xs : Nat → Int32} {W1 : va_W} {d0 : Drawn} {ls : Array Slot} (hlt : l.stackTraces = false) (C : LC p s m args c D cI cJ cZ cO b L xs) (hL : L ≤ 2560) (hi : i + 5 ≤ L) (hR : 10 ≤ R.frames ∧ 376 ≤ R.locals) (hc : cells + 20 ≤ R.cells ∧ slots + 400 ≤ R.slots)
    (hI : LI cI cJ cZ cO g0 m0 o B W1) (hP : va_P D vwCl W1 H) (hD : va_D (fun q => s.heap.size ≤ q) W1) (hS : va_S (fun q => s.heap.size ≤ q) s.heap H locs) (hd0 : s.drawn.sameBut d0 lw_cs) (hl : lv_has ls 9 (lvL b g0 m0 o i))
    (hB : B + 2001 < 2147483647) (K : KN p l e R s m args below meth c D cI cJ cZ cO Q b g0 m0 o i B cells slots) : W p l e R (s.setDrawn d0) m args below meth c H locs cells slots Q (F0 m 1090 ls []) := by
  obtain ⟨hx, hb, hml, hown, hts, hK, hN, hxs, hz0, hX, hbl⟩ := C
  have hts := dr_words hts d0
  have hown : (s.setDrawn d0).vm.findClass RL = some m.cls := hown
  have hX : va_X b L xs (s.setDrawn d0) s.heap := hX
  have hK : va_K D vwCl (tysK cI cJ cZ cO) (s.setDrawn d0) := hK
  have hN : NW (s.setDrawn d0) := NW.same (u := s) (U := s.setDrawn d0) rfl hN
  have hxs : XS (s.setDrawn d0) := XS.same (u := s) (U := s.setDrawn d0) rfl hxs
  have hz0 : ZS (fun q => s.heap.size ≤ q) (s.setDrawn d0) s.heap := hz0.moved (U := s.setDrawn d0) (Vm.Alike.refl s.vm)
  have hbA : ¬ (fun q : Nat => s.heap.size ≤ q) b := Nat.not_le.mpr hbl
  have hA : ∀ q : Nat, s.heap.size ≤ q → (fun q : Nat => s.heap.size ≤ q) q := fun _ h => h
  obtain ⟨a, bt, f, cf, E, fb, cb, eb, s0, sc, S0, S1, ma, tw, as, sl, se, sv, ov, rfl, rfl, hg, ha, hs0, hs1⟩ := hI

  refine lv_aload_n hx hb dL_law_1090 rfl (lv_at hl 1 rfl) ?_
  refine lv_aload_n hx hb dL_law_1091 rfl (lv_at hl 0 rfl) ?_
  refine lv_iload hx hb dL_law_1092 (lv_at hl 4 rfl) ?_
  refine lv_iconst (v := 1) hx hb dL_law_1094 (by decide) ?_
  refine lv_iadd hx hb dL_law_1095 ?_
  refine r_scr hx hb hX hbl hbA hS (i := i + 1) (by omega) hL (nI_1 i) dL_law_1096 ?_
  refine lv_aload_n hx hb dL_law_1097 rfl (lv_at hl 0 rfl) ?_
  refine lv_iload hx hb dL_law_1098 (lv_at hl 4 rfl) ?_
  refine lv_iconst (v := 2) hx hb dL_law_1100 (by decide) ?_
  refine lv_iadd hx hb dL_law_1101 ?_
  refine r_scr hx hb hX hbl hbA hS (i := i + 2) (by omega) hL (nI_add i 2) dL_law_1102 ?_
  refine lv_aload_n hx hb dL_law_1103 rfl (lv_at hl 0 rfl) ?_
  refine lv_iload hx hb dL_law_1104 (lv_at hl 4 rfl) ?_
  refine lv_iconst (v := 3) hx hb dL_law_1106 (by decide) ?_
  refine lv_iadd hx hb dL_law_1107 ?_
  refine r_scr hx hb hX hbl hbA hS (i := i + 3) (by omega) hL (nI_add i 3) dL_law_1108 ?_
  refine lv_aload_n hx hb dL_law_1109 rfl (lv_at hl 0 rfl) ?_
  refine lv_iload hx hb dL_law_1110 (lv_at hl 4 rfl) ?_
  refine lv_iconst (v := 4) hx hb dL_law_1112 (by decide) ?_
  refine lv_iadd hx hb dL_law_1113 ?_
  refine r_scr hx hb hX hbl hbA hS (i := i + 4) (by omega) hL (nI_add i 4) dL_law_1114 ?_
  refine lv_aload_n hx hb dL_law_1115 rfl (lv_at hl 3 rfl) ?_
  obtain ⟨p0, e0⟩ : ∃ x, xs (i + 1) = x := ⟨_, rfl⟩
  obtain ⟨p1, e1⟩ : ∃ x, xs (i + 2) = x := ⟨_, rfl⟩
  obtain ⟨p2, e2⟩ : ∃ x, xs (i + 3) = x := ⟨_, rfl⟩
  obtain ⟨p3, e3⟩ : ∃ x, xs (i + 4) = x := ⟨_, rfl⟩
  rw [e0, e1, e2, e3]
  refine callH (hh := _) (As := [.ref g0, .int p0, .int p1, .int p2, .int p3, .ref o]) (rest := []) ⟨hx, hb, hml, hown, hts⟩ (hL_islandTime l D cI cJ cZ cO g0 p0 p1 p2 p3 o ov _ rfl (by decide) (giC g0 (a 0) (bt 0) s0 :: (simW cI a f cf E ++ simW cI bt fb cb eb)) _ (v_h0_thrown_X7_islandTime f p0 p1 p2 p3) (r_X7_islandTime f p0 p1 p2 p3) _ rfl (by unfold v_h0_thrown_X7_islandTime; (repeat' split) <;> first | exact Or.inl rfl | exact Or.inr (Or.inl rfl) | exact Or.inr (Or.inr rfl)) (wrX6_islandTime l hlt D cI cJ cZ cO g0 s0 a bt f cf E fb cb eb p0 p1 p2 p3 B hg.1 (by omega) ha)) (vx_cwSW 6 hts gL_law_L_islandTime rfl rfl rfl (by decide +kernel) ⟨by show 7 + 1 ≤ R.frames; omega, by show 8 + (7 + 11) + 230 ≤ R.locals; omega⟩) hK hN hxs hz0 (P_perm (pm_3 _ _ _ _ _ _ _) hP) (D_perm (pm_3 _ _ _ _ _ _ _) hD) hS hA rfl rfl hl.1 (Nat.le_of_ble_eq_true rfl) dL_law_1116 ⟨by show cells + 1 ≤ R.cells; omega, by show slots + 6 ≤ R.slots; omega⟩ (fun u H locs hP hD hS => ?_)
  replace hP := P_perm (pm_3 (giC g0 (a 0) (bt 0) s0) (scC cO s0 sc) (ocC cJ o (if (v_h0_thrown_X7_islandTime f p0 p1 p2 p3) = 0 then vp_updL ov 0 (r_X7_islandTime f p0 p1 p2 p3).toInt64 else ov)) (simW cI a f cf E) _ (S0 ++ S1) (mdW cI cJ cZ ma E tw f as sl se sv)).symm hP
  replace hD := D_perm (pm_3 (giC g0 (a 0) (bt 0) s0) (scC cO s0 sc) (ocC cJ o (if (v_h0_thrown_X7_islandTime f p0 p1 p2 p3) = 0 then vp_updL ov 0 (r_X7_islandTime f p0 p1 p2 p3).toInt64 else ov)) (simW cI a f cf E) _ (S0 ++ S1) (mdW cI cJ cZ ma E tw f as sl se sv)).symm hD
  refine lv_istore (lv' := (5, .int (v_h0_thrown_X7_islandTime f p0 p1 p2 p3)) :: lvL b g0 (ma 0) o i) hx hb dL_law_1119 hl (by decide) rfl (fun ls hl => ?_)
  refine lv_aload_n hx hb dL_law_1121 rfl (lv_at hl 3 rfl) ?_
  refine lv_aload_n hx hb dL_law_1122 rfl (lv_at hl 1 rfl) ?_
  refine lv_iload hx hb dL_law_1123 (lv_at hl 5 rfl) ?_
  refine lv_iconst (v := 1) hx hb dL_law_1125 (by decide) ?_
  refine lv_iadd hx hb dL_law_1126 ?_
  refine r_scr hx hb hX hbl hbA hS (i := i + 1) (by omega) hL (nI_1 i) dL_law_1127 ?_
  refine lv_aload_n hx hb dL_law_1128 rfl (lv_at hl 1 rfl) ?_
  refine lv_iload hx hb dL_law_1129 (lv_at hl 5 rfl) ?_
  refine lv_iconst (v := 2) hx hb dL_law_1131 (by decide) ?_
  refine lv_iadd hx hb dL_law_1132 ?_
  refine r_scr hx hb hX hbl hbA hS (i := i + 2) (by omega) hL (nI_add i 2) dL_law_1133 ?_
  refine lv_aload_n hx hb dL_law_1134 rfl (lv_at hl 1 rfl) ?_
  refine lv_iload hx hb dL_law_1135 (lv_at hl 5 rfl) ?_
  refine lv_iconst (v := 3) hx hb dL_law_1137 (by decide) ?_
  refine lv_iadd hx hb dL_law_1138 ?_
  refine r_scr hx hb hX hbl hbA hS (i := i + 3) (by omega) hL (nI_add i 3) dL_law_1139 ?_
  refine lv_aload_n hx hb dL_law_1140 rfl (lv_at hl 1 rfl) ?_
  refine lv_iload hx hb dL_law_1141 (lv_at hl 5 rfl) ?_
  refine lv_iconst (v := 4) hx hb dL_law_1143 (by decide) ?_
  refine lv_iadd hx hb dL_law_1144 ?_
  refine r_scr hx hb hX hbl hbA hS (i := i + 4) (by omega) hL (nI_add i 4) dL_law_1145 ?_
  rw [e0, e1, e2, e3]
  refine callM_i (As := [.int p0, .int p1, .int p2, .int p3]) (rest := []) ⟨hx, hb, hml, hown, hts⟩ (mX7_islandTime l D cI cJ cZ cO (ma 0) (ma 1) (ma 2) (ma 3) (ma 4) (ma 5) E tw f as p0 p1 p2 p3 B hg.1 (by omega)) (cwV 4 hts gL_law_X7_islandTime rfl rfl rfl (by decide +kernel) ⟨by show 5 + 1 ≤ R.frames; omega, by show 8 + (5 + 11) + 110 ≤ R.locals; omega⟩) hK hN (P_perm (pm_9 _ _ _ _ _ _ _ _ _ _ ) hP) (D_perm (pm_9 _ _ _ _ _ _ _ _ _ _ ) hD) hS hA 7 0 rfl rfl rfl rfl rfl hl.1 (Nat.le_of_ble_eq_true rfl) dL_law_1146 ⟨by show cells + 1 + 0 ≤ R.cells; omega, by show slots + 6 + 0 ≤ R.slots; omega⟩ (fun H locs hP hD hS => ?_)
  replace hP := P_perm (pm_9 (giC g0 (a 0) (bt 0) s0) (scC cO s0 sc) (ocC cJ o (if (v_h0_thrown_X7_islandTime f p0 p1 p2 p3) = 0 then vp_updL ov 0 (r_X7_islandTime f p0 p1 p2 p3).toInt64 else ov)) _ _ _ (simW cI a f cf E) _ (S0 ++ S1) _).symm hP
  replace hD := D_perm (pm_9 (giC g0 (a 0) (bt 0) s0) (scC cO s0 sc) (ocC cJ o (if (v_h0_thrown_X7_islandTime f p0 p1 p2 p3) = 0 then vp_updL ov 0 (r_X7_islandTime f p0 p1 p2 p3).toInt64 else ov)) _ _ _ (simW cI a f cf E) _ (S0 ++ S1) _).symm hD
  refine lv_istore (lv' := (6, .int (r_X7_islandTime f p0 p1 p2 p3)) :: (5, .int (v_h0_thrown_X7_islandTime f p0 p1 p2 p3)) :: lvL b g0 (ma 0) o i) hx hb dL_law_1149 hl (by decide) rfl (fun ls hl => ?_)
  refine lv_aload_n hx hb dL_law_1151 rfl (lv_at hl 4 rfl) ?_
  refine callM_i (As := []) (rest := []) ⟨hx, hb, hml, hown, hts⟩ (mX7_thrown l D cI cJ cZ cO (ma 0) (ma 1) (ma 2) (ma 3) (ma 4) (ma 5) E (v_h0_thrown_X7_islandTime f p0 p1 p2 p3)) (cwV 0 hts gL_law_X7_thrown rfl rfl rfl (by decide +kernel) ⟨by show 0 + 1 ≤ R.frames; omega, by show 8 + (1 + 11) + 0 ≤ R.locals; omega⟩) hK hN (P_perm (pm_8 _ _ _ _ _ _ _ _) hP) (D_perm (pm_8 _ _ _ _ _ _ _ _) hD) hS hA 7 0 rfl rfl rfl rfl rfl hl.1 (Nat.le_of_ble_eq_true rfl) dL_law_1152 ⟨by show cells + 1 + 0 + 0 ≤ R.cells; omega, by show slots + 6 + 0 + 0 ≤ R.slots; omega⟩ (fun H locs hP hD hS => ?_)
  replace hP := P_perm (pm_8 (giC g0 (a 0) (bt 0) s0) (scC cO s0 sc) (ocC cJ o (if (v_h0_thrown_X7_islandTime f p0 p1 p2 p3) = 0 then vp_updL ov 0 (r_X7_islandTime f p0 p1 p2 p3).toInt64 else ov)) _ (simW cI a f cf E) _ (S0 ++ S1) _).symm hP
  replace hD := D_perm (pm_8 (giC g0 (a 0) (bt 0) s0) (scC cO s0 sc) (ocC cJ o (if (v_h0_thrown_X7_islandTime f p0 p1 p2 p3) = 0 then vp_updL ov 0 (r_X7_islandTime f p0 p1 p2 p3).toInt64 else ov)) _ (simW cI a f cf E) _ (S0 ++ S1) _).symm hD
  refine lv_iload hx hb dL_law_1155 (lv_at hl 1 rfl) ?_
  refine lv_icmp_eq (tgt := 1162) hx hb dL_law_1157 (by decide) (fun _ => ?_) (fun h => absurd rfl h)
  have hend : W p l e R (s.setDrawn d0) m args below meth c H locs (cells + 1 + 0 + 0) (slots + 6 + 0 + 0) Q (F0 m 1179 ls []) := by
    refine lv_goto (tgt := 1414) hx hb dL_law_1179 (by decide) ?_
    refine W.widen (k := cells + 20) (n := slots + 400) (by show cells + 1 + 0 + 0 ≤ cells + 20; omega) (by show slots + 6 + 0 + 0 ≤ slots + 400; omega) ?_
    have kp : Gd f B ∧ AgN cf f := ⟨hg, ha⟩
    exact K _ H locs d0 ls ⟨a, bt, f, cf, E, _, _, _, s0, sc, S0, S1, ma, _, _, sl, se, sv, _, rfl, rfl, kp.1.up (by omega), kp.2, hs0.up (by omega), hs1.up (by omega)⟩ hP hD hS hd0 (lv_sub hl [2, 3, 4, 5, 6] rfl)
  refine lv_iload hx hb dL_law_1162 (lv_at hl 1 rfl) ?_
  refine lv_if_ne (tgt := 1179) hx hb dL_law_1164 (by decide) (fun _ => hend) (fun hk0 => ?_)
  refine lv_aload_n hx hb dL_law_1167 rfl (lv_at hl 5 rfl) ?_
  refine lv_iconst (v := 0) hx hb dL_law_1168 (by decide) ?_
  refine r_lald hx hb hK (P_perm (pm_6 _ _ _ _ _ _ _) hP) 0 1 rfl rfl 0 rfl (Nat.le_of_ble_eq_true rfl) (Nat.le_of_ble_eq_true rfl) dL_law_1169 ?_
  rw [if_pos (Classical.byContradiction fun w => w (by first | exact hk0 | exact Classical.not_not.mp hk0))]
  refine lv_iload hx hb dL_law_1170 (lv_at hl 0 rfl) ?_
  refine lv_i2l hx hb dL_law_1172 rfl ?_
  refine W.lcmp hx hb dL_law_1173 ?_
  refine lv_if_eq (tgt := 1179) hx hb dL_law_1174 (by decide) (fun _ => hend) (fun w => absurd (by unfold lg_cmp; simp [vp_updL]) w)

set_option maxHeartbeats 4000000 in
set_option maxRecDepth 100000 in
theorem kc_undetected {D : va_G} {cI cJ cZ cO : ClassId} {b L g0 m0 o i B : Nat} {xs : Nat → Int32} {W1 : va_W} {d0 : Drawn} {ls : Array Slot} (hlt : l.stackTraces = false) (C : LC p s m args c D cI cJ cZ cO b L xs) (hL : L ≤ 2560) (hi : i + 5 ≤ L) (hR : 10 ≤ R.frames ∧ 376 ≤ R.locals) (hc : cells + 20 ≤ R.cells ∧ slots + 400 ≤ R.slots)
    (hI : LI cI cJ cZ cO g0 m0 o B W1) (hP : va_P D vwCl W1 H) (hD : va_D (fun q => s.heap.size ≤ q) W1) (hS : va_S (fun q => s.heap.size ≤ q) s.heap H locs) (hd0 : s.drawn.sameBut d0 lw_cs) (hl : lv_has ls 9 (lvL b g0 m0 o i))
    (hB : B + 2001 < 2147483647) (K : KN p l e R s m args below meth c D cI cJ cZ cO Q b g0 m0 o i B cells slots) : W p l e R (s.setDrawn d0) m args below meth c H locs cells slots Q (F0 m 1182 ls []) := by
  obtain ⟨hx, hb, hml, hown, hts, hK, hN, hxs, hz0, hX, hbl⟩ := C
  have hts := dr_words hts d0
  have hown : (s.setDrawn d0).vm.findClass RL = some m.cls := hown
  have hX : va_X b L xs (s.setDrawn d0) s.heap := hX
  have hK : va_K D vwCl (tysK cI cJ cZ cO) (s.setDrawn d0) := hK
  have hN : NW (s.setDrawn d0) := NW.same (u := s) (U := s.setDrawn d0) rfl hN
  have hxs : XS (s.setDrawn d0) := XS.same (u := s) (U := s.setDrawn d0) rfl hxs
  have hz0 : ZS (fun q => s.heap.size ≤ q) (s.setDrawn d0) s.heap := hz0.moved (U := s.setDrawn d0) (Vm.Alike.refl s.vm)
  have hbA : ¬ (fun q : Nat => s.heap.size ≤ q) b := Nat.not_le.mpr hbl
  have hA : ∀ q : Nat, s.heap.size ≤ q → (fun q : Nat => s.heap.size ≤ q) q := fun _ h => h
  obtain ⟨a, bt, f, cf, E, fb, cb, eb, s0, sc, S0, S1, ma, tw, as, sl, se, sv, ov, rfl, rfl, hg, ha, hs0, hs1⟩ := hI

  refine lv_aload_n hx hb dL_law_1182 rfl (lv_at hl 1 rfl) ?_
  refine lv_aload_n hx hb dL_law_1183 rfl (lv_at hl 0 rfl) ?_
  refine lv_iload hx hb dL_law_1184 (lv_at hl 4 rfl) ?_
  refine lv_iconst (v := 1) hx hb dL_law_1186 (by decide) ?_
  refine lv_iadd hx hb dL_law_1187 ?_
  refine r_scr hx hb hX hbl hbA hS (i := i + 1) (by omega) hL (nI_1 i) dL_law_1188 ?_
  refine lv_aload_n hx hb dL_law_1189 rfl (lv_at hl 0 rfl) ?_
  refine lv_iload hx hb dL_law_1190 (lv_at hl 4 rfl) ?_
  refine lv_iconst (v := 2) hx hb dL_law_1192 (by decide) ?_
  refine lv_iadd hx hb dL_law_1193 ?_
  refine r_scr hx hb hX hbl hbA hS (i := i + 2) (by omega) hL (nI_add i 2) dL_law_1194 ?_
  refine lv_aload_n hx hb dL_law_1195 rfl (lv_at hl 0 rfl) ?_
  refine lv_iload hx hb dL_law_1196 (lv_at hl 4 rfl) ?_
  refine lv_iconst (v := 3) hx hb dL_law_1198 (by decide) ?_
  refine lv_iadd hx hb dL_law_1199 ?_
  refine r_scr hx hb hX hbl hbA hS (i := i + 3) (by omega) hL (nI_add i 3) dL_law_1200 ?_
  refine lv_aload_n hx hb dL_law_1201 rfl (lv_at hl 0 rfl) ?_
  refine lv_iload hx hb dL_law_1202 (lv_at hl 4 rfl) ?_
  refine lv_iconst (v := 4) hx hb dL_law_1204 (by decide) ?_
  refine lv_iadd hx hb dL_law_1205 ?_
  refine r_scr hx hb hX hbl hbA hS (i := i + 4) (by omega) hL (nI_add i 4) dL_law_1206 ?_
  refine lv_aload_n hx hb dL_law_1207 rfl (lv_at hl 3 rfl) ?_
  obtain ⟨p0, e0⟩ : ∃ x, xs (i + 1) = x := ⟨_, rfl⟩
  obtain ⟨p1, e1⟩ : ∃ x, xs (i + 2) = x := ⟨_, rfl⟩
  obtain ⟨p2, e2⟩ : ∃ x, xs (i + 3) = x := ⟨_, rfl⟩
  obtain ⟨p3, e3⟩ : ∃ x, xs (i + 4) = x := ⟨_, rfl⟩
  rw [e0, e1, e2, e3]
  refine callH (hh := _) (As := [.ref g0, .int p0, .int p1, .int p2, .int p3, .ref o]) (rest := []) ⟨hx, hb, hml, hown, hts⟩ (hL_undetected l D cI cJ cZ cO g0 p0 p1 p2 p3 o ov _ rfl (by decide) (giC g0 (a 0) (bt 0) s0 :: (simW cI a f cf E ++ simW cI bt fb cb eb)) _ (v_h0_thrown_X7_undetected f p0 p1 p2 p3) (r_X7_undetected f p0 p1 p2 p3) _ rfl (by unfold v_h0_thrown_X7_undetected; (repeat' split) <;> first | exact Or.inl rfl | exact Or.inr (Or.inl rfl) | exact Or.inr (Or.inr rfl)) (wrX6_undetected l hlt D cI cJ cZ cO g0 s0 a bt f cf E fb cb eb p0 p1 p2 p3 B hg.1 (by omega) ha)) (vx_cwSW 6 hts gL_law_L_undetected rfl rfl rfl (by decide +kernel) ⟨by show 7 + 1 ≤ R.frames; omega, by show 8 + (7 + 11) + 230 ≤ R.locals; omega⟩) hK hN hxs hz0 (P_perm (pm_3 _ _ _ _ _ _ _) hP) (D_perm (pm_3 _ _ _ _ _ _ _) hD) hS hA rfl rfl hl.1 (Nat.le_of_ble_eq_true rfl) dL_law_1208 ⟨by show cells + 1 ≤ R.cells; omega, by show slots + 6 ≤ R.slots; omega⟩ (fun u H locs hP hD hS => ?_)
  replace hP := P_perm (pm_3 (giC g0 (a 0) (bt 0) s0) (scC cO s0 sc) (ocC cJ o (if (v_h0_thrown_X7_undetected f p0 p1 p2 p3) = 0 then vp_updL ov 0 (r_X7_undetected f p0 p1 p2 p3).toInt64 else ov)) (simW cI a f cf E) _ (S0 ++ S1) (mdW cI cJ cZ ma E tw f as sl se sv)).symm hP
  replace hD := D_perm (pm_3 (giC g0 (a 0) (bt 0) s0) (scC cO s0 sc) (ocC cJ o (if (v_h0_thrown_X7_undetected f p0 p1 p2 p3) = 0 then vp_updL ov 0 (r_X7_undetected f p0 p1 p2 p3).toInt64 else ov)) (simW cI a f cf E) _ (S0 ++ S1) (mdW cI cJ cZ ma E tw f as sl se sv)).symm hD
  refine lv_istore (lv' := (5, .int (v_h0_thrown_X7_undetected f p0 p1 p2 p3)) :: lvL b g0 (ma 0) o i) hx hb dL_law_1211 hl (by decide) rfl (fun ls hl => ?_)
  refine lv_aload_n hx hb dL_law_1213 rfl (lv_at hl 3 rfl) ?_
  refine lv_aload_n hx hb dL_law_1214 rfl (lv_at hl 1 rfl) ?_
  refine lv_iload hx hb dL_law_1215 (lv_at hl 5 rfl) ?_
  refine lv_iconst (v := 1) hx hb dL_law_1217 (by decide) ?_
  refine lv_iadd hx hb dL_law_1218 ?_
  refine r_scr hx hb hX hbl hbA hS (i := i + 1) (by omega) hL (nI_1 i) dL_law_1219 ?_
  refine lv_aload_n hx hb dL_law_1220 rfl (lv_at hl 1 rfl) ?_
  refine lv_iload hx hb dL_law_1221 (lv_at hl 5 rfl) ?_
  refine lv_iconst (v := 2) hx hb dL_law_1223 (by decide) ?_
  refine lv_iadd hx hb dL_law_1224 ?_
  refine r_scr hx hb hX hbl hbA hS (i := i + 2) (by omega) hL (nI_add i 2) dL_law_1225 ?_
  refine lv_aload_n hx hb dL_law_1226 rfl (lv_at hl 1 rfl) ?_
  refine lv_iload hx hb dL_law_1227 (lv_at hl 5 rfl) ?_
  refine lv_iconst (v := 3) hx hb dL_law_1229 (by decide) ?_
  refine lv_iadd hx hb dL_law_1230 ?_
  refine r_scr hx hb hX hbl hbA hS (i := i + 3) (by omega) hL (nI_add i 3) dL_law_1231 ?_
  refine lv_aload_n hx hb dL_law_1232 rfl (lv_at hl 1 rfl) ?_
  refine lv_iload hx hb dL_law_1233 (lv_at hl 5 rfl) ?_
  refine lv_iconst (v := 4) hx hb dL_law_1235 (by decide) ?_
  refine lv_iadd hx hb dL_law_1236 ?_
  refine r_scr hx hb hX hbl hbA hS (i := i + 4) (by omega) hL (nI_add i 4) dL_law_1237 ?_
  rw [e0, e1, e2, e3]
  refine callM_i (As := [.int p0, .int p1, .int p2, .int p3]) (rest := []) ⟨hx, hb, hml, hown, hts⟩ (mX7_undetected l D cI cJ cZ cO (ma 0) (ma 1) (ma 2) (ma 3) (ma 4) (ma 5) E tw f as p0 p1 p2 p3 B hg.1 (by omega)) (cwV 4 hts gL_law_X7_undetected rfl rfl rfl (by decide +kernel) ⟨by show 5 + 1 ≤ R.frames; omega, by show 8 + (8 + 11) + 110 ≤ R.locals; omega⟩) hK hN (P_perm (pm_9 _ _ _ _ _ _ _ _ _ _ ) hP) (D_perm (pm_9 _ _ _ _ _ _ _ _ _ _ ) hD) hS hA 7 0 rfl rfl rfl rfl rfl hl.1 (Nat.le_of_ble_eq_true rfl) dL_law_1238 ⟨by show cells + 1 + 0 ≤ R.cells; omega, by show slots + 6 + 0 ≤ R.slots; omega⟩ (fun H locs hP hD hS => ?_)
  replace hP := P_perm (pm_9 (giC g0 (a 0) (bt 0) s0) (scC cO s0 sc) (ocC cJ o (if (v_h0_thrown_X7_undetected f p0 p1 p2 p3) = 0 then vp_updL ov 0 (r_X7_undetected f p0 p1 p2 p3).toInt64 else ov)) _ _ _ (simW cI a f cf E) _ (S0 ++ S1) _).symm hP
  replace hD := D_perm (pm_9 (giC g0 (a 0) (bt 0) s0) (scC cO s0 sc) (ocC cJ o (if (v_h0_thrown_X7_undetected f p0 p1 p2 p3) = 0 then vp_updL ov 0 (r_X7_undetected f p0 p1 p2 p3).toInt64 else ov)) _ _ _ (simW cI a f cf E) _ (S0 ++ S1) _).symm hD
  refine lv_istore (lv' := (6, .int (r_X7_undetected f p0 p1 p2 p3)) :: (5, .int (v_h0_thrown_X7_undetected f p0 p1 p2 p3)) :: lvL b g0 (ma 0) o i) hx hb dL_law_1241 hl (by decide) rfl (fun ls hl => ?_)
  refine lv_aload_n hx hb dL_law_1243 rfl (lv_at hl 4 rfl) ?_
  refine callM_i (As := []) (rest := []) ⟨hx, hb, hml, hown, hts⟩ (mX7_thrown l D cI cJ cZ cO (ma 0) (ma 1) (ma 2) (ma 3) (ma 4) (ma 5) E (v_h0_thrown_X7_undetected f p0 p1 p2 p3)) (cwV 0 hts gL_law_X7_thrown rfl rfl rfl (by decide +kernel) ⟨by show 0 + 1 ≤ R.frames; omega, by show 8 + (1 + 11) + 0 ≤ R.locals; omega⟩) hK hN (P_perm (pm_8 _ _ _ _ _ _ _ _) hP) (D_perm (pm_8 _ _ _ _ _ _ _ _) hD) hS hA 7 0 rfl rfl rfl rfl rfl hl.1 (Nat.le_of_ble_eq_true rfl) dL_law_1244 ⟨by show cells + 1 + 0 + 0 ≤ R.cells; omega, by show slots + 6 + 0 + 0 ≤ R.slots; omega⟩ (fun H locs hP hD hS => ?_)
  replace hP := P_perm (pm_8 (giC g0 (a 0) (bt 0) s0) (scC cO s0 sc) (ocC cJ o (if (v_h0_thrown_X7_undetected f p0 p1 p2 p3) = 0 then vp_updL ov 0 (r_X7_undetected f p0 p1 p2 p3).toInt64 else ov)) _ (simW cI a f cf E) _ (S0 ++ S1) _).symm hP
  replace hD := D_perm (pm_8 (giC g0 (a 0) (bt 0) s0) (scC cO s0 sc) (ocC cJ o (if (v_h0_thrown_X7_undetected f p0 p1 p2 p3) = 0 then vp_updL ov 0 (r_X7_undetected f p0 p1 p2 p3).toInt64 else ov)) _ (simW cI a f cf E) _ (S0 ++ S1) _).symm hD
  refine lv_iload hx hb dL_law_1247 (lv_at hl 1 rfl) ?_
  refine lv_icmp_eq (tgt := 1254) hx hb dL_law_1249 (by decide) (fun _ => ?_) (fun h => absurd rfl h)
  have hend : W p l e R (s.setDrawn d0) m args below meth c H locs (cells + 1 + 0 + 0) (slots + 6 + 0 + 0) Q (F0 m 1271 ls []) := by
    refine lv_goto (tgt := 1414) hx hb dL_law_1271 (by decide) ?_
    refine W.widen (k := cells + 20) (n := slots + 400) (by show cells + 1 + 0 + 0 ≤ cells + 20; omega) (by show slots + 6 + 0 + 0 ≤ slots + 400; omega) ?_
    have kp : Gd f B ∧ AgN cf f := ⟨hg, ha⟩
    exact K _ H locs d0 ls ⟨a, bt, f, cf, E, _, _, _, s0, sc, S0, S1, ma, _, _, sl, se, sv, _, rfl, rfl, kp.1.up (by omega), kp.2, hs0.up (by omega), hs1.up (by omega)⟩ hP hD hS hd0 (lv_sub hl [2, 3, 4, 5, 6] rfl)
  refine lv_iload hx hb dL_law_1254 (lv_at hl 1 rfl) ?_
  refine lv_if_ne (tgt := 1271) hx hb dL_law_1256 (by decide) (fun _ => hend) (fun hk0 => ?_)
  refine lv_aload_n hx hb dL_law_1259 rfl (lv_at hl 5 rfl) ?_
  refine lv_iconst (v := 0) hx hb dL_law_1260 (by decide) ?_
  refine r_lald hx hb hK (P_perm (pm_6 _ _ _ _ _ _ _) hP) 0 1 rfl rfl 0 rfl (Nat.le_of_ble_eq_true rfl) (Nat.le_of_ble_eq_true rfl) dL_law_1261 ?_
  rw [if_pos (Classical.byContradiction fun w => w (by first | exact hk0 | exact Classical.not_not.mp hk0))]
  refine lv_iload hx hb dL_law_1262 (lv_at hl 0 rfl) ?_
  refine lv_i2l hx hb dL_law_1264 rfl ?_
  refine W.lcmp hx hb dL_law_1265 ?_
  refine lv_if_eq (tgt := 1271) hx hb dL_law_1266 (by decide) (fun _ => hend) (fun w => absurd (by unfold lg_cmp; simp [vp_updL]) w)
end LAW5
