section LAWROWS
section
variable (gi s0c oc md at_ : Nat × va_E) (P T SV M : va_W)
theorem pm_7 : (LB gi s0c oc P T SV (md :: at_ :: M)).Perm ((gi :: s0c :: oc :: (P ++ (T ++ (SV ++ M)))) ++ [md, at_]) := by
  refine perm_cnt (fun dec x => ?_)
  unfold LB
  simp only [List.count_cons, List.count_append, List.count_nil]
  omega
theorem pm_8 : (LB gi s0c oc P T SV (md :: M)).Perm ((gi :: s0c :: oc :: (P ++ (T ++ (SV ++ M)))) ++ [md]) := by
  refine perm_cnt (fun dec x => ?_)
  unfold LB
  simp only [List.count_cons, List.count_append, List.count_nil]
  omega
end
variable {p : Program} {l : Launch} {e : Env} {R : Room} {s : State} {m : MethodId} {args : Array Value} {below : List Frame} {meth : Method} {c : Code} {H : Heap} {locs : List Loc} {cells slots : Nat} {Q : State → Prop}
/-- a number of the script -/
theorem r_scr {cc : ByteArray} {pc : Nat} {ls : Array Slot} {rest : List Value} {A : Nat → Prop} {H0 : Heap} (hexec : p.tables.exec = Jvm.exec) (hb : c.code = cc) {b L : Nat} {xs : Nat → Int32} (hX : va_X b L xs s H0) (hbl : b < H0.size) (hbA : ¬ A b) (hS : va_S A H0 H locs) {i : Nat} (hi : i < L) (hL : L ≤ 2560) {x : Int32} (hx : x = nI i) (hdg : decode cc pc = .ok (.iaload, 1))
    (kk : W p l e R s m args below meth c H locs cells slots Q (F0 m (pc + 1) ls (.int (xs i) :: rest))) : W p l e R s m args below meth c H locs cells slots Q (F0 m pc ls (.int x :: .ref b :: rest)) := by
  subst hx
  refine va_sld hexec hb hX hbl hbA hS (vp_in_nI hi (by omega)) hdg ?_
  rw [nI_clamp (show i < 2 ^ 31 by omega)]
  exact kk
theorem kc_setGrid {D : va_G} {cI cJ cZ cO : ClassId} {b L g0 m0 o i B : Nat} {xs : Nat → Int32} {W1 : va_W} {d0 : Drawn} {ls : Array Slot} (hlt : l.stackTraces = false) (C : LC p s m args c D cI cJ cZ cO b L xs) (hL : L ≤ 2560) (hi : i + 5 ≤ L) (hR : 10 ≤ R.frames ∧ 376 ≤ R.locals) (hc : cells + 20 ≤ R.cells ∧ slots + 400 ≤ R.slots)
    (hI : LI cI cJ cZ cO g0 m0 o B W1) (hP : va_P D vwCl W1 H) (hD : va_D (fun q => s.heap.size ≤ q) W1) (hS : va_S (fun q => s.heap.size ≤ q) s.heap H locs) (hd0 : s.drawn.sameBut d0 lw_cs) (hl : lv_has ls 9 (lvL b g0 m0 o i))
    (K : KN p l e R s m args below meth c D cI cJ cZ cO Q b g0 m0 o i B cells slots) : W p l e R (s.setDrawn d0) m args below meth c H locs cells slots Q (F0 m 160 ls []) := by
  obtain ⟨hx, hb, hml, hown, hts, hK, hN, hxs, hz0, hX, hbl⟩ := C
  have hts := dr_words hts d0
  have hown : (s.setDrawn d0).vm.findClass RL = some m.cls := hown
  have hX : va_X b L xs (s.setDrawn d0) s.heap := hX
  have hK : va_K D vwCl (tysK cI cJ cZ cO) (s.setDrawn d0) := hK
  have hN : NW (s.setDrawn d0) := NW.same (u := s) (U := s.setDrawn d0) rfl hN
  have hxs : XS (s.setDrawn d0) := XS.same (u := s) (U := s.setDrawn d0) rfl hxs
  have hz0 : ZS (fun q => s.heap.size ≤ q) (s.setDrawn d0) s.heap := hz0.moved (U := s.setDrawn d0) (Vm.Alike.refl s.vm)
  have hbA : ¬ (fun q : Nat => s.heap.size ≤ q) b := Nat.not_le.mpr hbl
  have hA : ∀ q : Nat, s.heap.size ≤ q → (fun q : Nat => s.heap.size ≤ q) q := fun _ h => h
  obtain ⟨a, bt, f, cf, E, fb, cb, eb, s0, sc, S0, S1, ma, tw, as, sl, se, sv, ov, rfl, rfl, hg, ha, hs0, hs1⟩ := hI
  refine lv_aload_n hx hb dL_law_160 rfl (lv_at hl 1 rfl) ?_
  refine lv_aload_n hx hb dL_law_161 rfl (lv_at hl 0 rfl) ?_
  refine lv_iload hx hb dL_law_162 (lv_at hl 4 rfl) ?_
  refine lv_iconst (v := 1) hx hb dL_law_164 (by decide) ?_
  refine lv_iadd hx hb dL_law_165 ?_
  refine r_scr hx hb hX hbl hbA hS (i := i + 1) (by omega) hL (nI_1 i) dL_law_166 ?_
  refine lv_aload_n hx hb dL_law_167 rfl (lv_at hl 0 rfl) ?_
  refine lv_iload hx hb dL_law_168 (lv_at hl 4 rfl) ?_
  refine lv_iconst (v := 2) hx hb dL_law_170 (by decide) ?_
  refine lv_iadd hx hb dL_law_171 ?_
  refine r_scr hx hb hX hbl hbA hS (i := i + 2) (by omega) hL (nI_add i 2) dL_law_172 ?_
  obtain ⟨p0, e1⟩ : ∃ x, xs (i + 1) = x := ⟨_, rfl⟩
  obtain ⟨p1, e2⟩ : ∃ x, xs (i + 2) = x := ⟨_, rfl⟩
  rw [e1, e2]
  refine callH (hh := _) (As := [.ref g0, .int p0, .int p1]) (rest := []) ⟨hx, hb, hml, hown, hts⟩ (hL_setGrid l D cI cJ cZ cO g0 p0 p1 _ rfl (by decide) (giC g0 (a 0) (bt 0) s0 :: simW cI a f cf E) (fun (_ : Unit) => giC g0 (a 0) (bt 0) s0 :: simW cI a (a_h1_X7_setGrid f p0 p1) cf E) (v_h0_thrown_X7_setGrid p0 p1) _ rfl (by unfold v_h0_thrown_X7_setGrid; (repeat' split) <;> first | exact Or.inl rfl | exact Or.inr rfl) (wrX6_setGrid l hlt D cI cJ cZ cO g0 (bt 0) s0 a f cf E p0 p1)) (vx_cwSW 3 hts gL_law_L_setGrid rfl rfl rfl (by decide +kernel) ⟨by show 7 + 1 ≤ R.frames; omega, by show 8 + (4 + 11) + 230 ≤ R.locals; omega⟩) hK hN hxs hz0 (P_perm (pm_1 _ _ _ _ _ _ _) hP) (D_perm (pm_1 _ _ _ _ _ _ _) hD) hS hA rfl rfl hl.1 (Nat.le_of_ble_eq_true rfl) dL_law_173 ⟨by show cells + 1 ≤ R.cells; omega, by show slots + 6 ≤ R.slots; omega⟩ (fun u H locs hP hD hS => ?_)
  replace hP := P_perm (pm_1 (giC g0 (a 0) (bt 0) s0) (scC cO s0 sc) (ocC cJ o ov) (simW cI a (a_h1_X7_setGrid f p0 p1) cf E) (simW cI bt fb cb eb) (S0 ++ S1) (mdW cI cJ cZ ma E tw f as sl se sv)).symm hP
  replace hD := D_perm (pm_1 (giC g0 (a 0) (bt 0) s0) (scC cO s0 sc) (ocC cJ o ov) (simW cI a (a_h1_X7_setGrid f p0 p1) cf E) (simW cI bt fb cb eb) (S0 ++ S1) (mdW cI cJ cZ ma E tw f as sl se sv)).symm hD
  refine lv_istore (lv' := (5, .int (v_h0_thrown_X7_setGrid p0 p1)) :: lvL b g0 (ma 0) o i) hx hb dL_law_176 hl (by decide) rfl (fun ls hl => ?_)
  refine lv_aload_n hx hb dL_law_178 rfl (lv_at hl 3 rfl) ?_
  refine lv_aload_n hx hb dL_law_179 rfl (lv_at hl 1 rfl) ?_
  refine lv_iload hx hb dL_law_180 (lv_at hl 5 rfl) ?_
  refine lv_iconst (v := 1) hx hb dL_law_182 (by decide) ?_
  refine lv_iadd hx hb dL_law_183 ?_
  refine r_scr hx hb hX hbl hbA hS (i := i + 1) (by omega) hL (nI_1 i) dL_law_184 ?_
  refine lv_aload_n hx hb dL_law_185 rfl (lv_at hl 1 rfl) ?_
  refine lv_iload hx hb dL_law_186 (lv_at hl 5 rfl) ?_
  refine lv_iconst (v := 2) hx hb dL_law_188 (by decide) ?_
  refine lv_iadd hx hb dL_law_189 ?_
  refine r_scr hx hb hX hbl hbA hS (i := i + 2) (by omega) hL (nI_add i 2) dL_law_190 ?_
  rw [e1, e2]
  refine callM_v (As := [.int p0, .int p1]) (rest := []) ⟨hx, hb, hml, hown, hts⟩ (mX7_setGrid l D cI cJ cZ cO (ma 0) (ma 1) (ma 2) (ma 3) (ma 4) (ma 5) E tw f p0 p1) (cwV 2 hts gL_law_X7_setGrid rfl rfl rfl (by decide +kernel) ⟨by show 1 + 1 ≤ R.frames; omega, by show 8 + (3 + 11) + 22 ≤ R.locals; omega⟩) hK hN (P_perm (pm_7 _ _ _ _ _ _ _ _ _) hP) (D_perm (pm_7 _ _ _ _ _ _ _ _ _) hD) hS hA 7 0 rfl rfl rfl rfl rfl hl.1 (Nat.le_of_ble_eq_true rfl) dL_law_191 ⟨by show cells + 1 + 0 ≤ R.cells; omega, by show slots + 6 + 0 ≤ R.slots; omega⟩ (fun u H locs hP hD hS => ?_)
  replace hP := P_perm (pm_7 (giC g0 (a 0) (bt 0) s0) (scC cO s0 sc) (ocC cJ o ov) _ _ (simW cI a (a_h1_X7_setGrid f p0 p1) cf E) (simW cI bt fb cb eb) (S0 ++ S1) _).symm hP
  replace hD := D_perm (pm_7 (giC g0 (a 0) (bt 0) s0) (scC cO s0 sc) (ocC cJ o ov) _ _ (simW cI a (a_h1_X7_setGrid f p0 p1) cf E) (simW cI bt fb cb eb) (S0 ++ S1) _).symm hD
  refine lv_aload_n hx hb dL_law_194 rfl (lv_at hl 3 rfl) ?_
  refine callM_i (As := []) (rest := []) ⟨hx, hb, hml, hown, hts⟩ (mX7_thrown l D cI cJ cZ cO (ma 0) (ma 1) (ma 2) (ma 3) (ma 4) (ma 5) E (v_h0_thrown_X7_setGrid p0 p1)) (cwV 0 hts gL_law_X7_thrown rfl rfl rfl (by decide +kernel) ⟨by show 0 + 1 ≤ R.frames; omega, by show 8 + (1 + 11) + 0 ≤ R.locals; omega⟩) hK hN (P_perm (pm_8 _ _ _ _ _ _ _ _) hP) (D_perm (pm_8 _ _ _ _ _ _ _ _) hD) hS hA 7 0 rfl rfl rfl rfl rfl hl.1 (Nat.le_of_ble_eq_true rfl) dL_law_195 ⟨by show cells + 1 + 0 + 0 ≤ R.cells; omega, by show slots + 6 + 0 + 0 ≤ R.slots; omega⟩ (fun H locs hP hD hS => ?_)
  replace hP := P_perm (pm_8 (giC g0 (a 0) (bt 0) s0) (scC cO s0 sc) (ocC cJ o ov) _ (simW cI a (a_h1_X7_setGrid f p0 p1) cf E) (simW cI bt fb cb eb) (S0 ++ S1) _).symm hP
  replace hD := D_perm (pm_8 (giC g0 (a 0) (bt 0) s0) (scC cO s0 sc) (ocC cJ o ov) _ (simW cI a (a_h1_X7_setGrid f p0 p1) cf E) (simW cI bt fb cb eb) (S0 ++ S1) _).symm hD
  refine lv_iload hx hb dL_law_198 (lv_at hl 0 rfl) ?_
  refine lv_icmp_eq (tgt := 205) hx hb dL_law_200 (by decide) (fun _ => ?_) (fun h => absurd rfl h)
  refine lv_goto (tgt := 1414) hx hb dL_law_205 (by decide) ?_
  refine W.widen (k := cells + 20) (n := slots + 400) (by show cells + 1 + 0 + 0 ≤ cells + 20; omega) (by show slots + 6 + 0 + 0 ≤ slots + 400; omega) ?_
  have kp := kp_setGrid (p0 := p0) (p1 := p1) hg ha
  exact K _ H locs d0 ls ⟨a, bt, _, _, _, fb, cb, eb, s0, sc, S0, S1, ma, _, as, sl, se, sv, ov, rfl, rfl, kp.1.up (by omega), kp.2, hs0.up (by omega), hs1.up (by omega)⟩ hP hD hS hd0 (lv_sub hl [1, 2, 3, 4, 5] rfl)
end LAWROWS
