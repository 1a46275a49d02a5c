section LAW7
section SLOTS
theorem MXV.frame {l : Launch} {y : MethodName} {ws : List Cond} {rm : Room} {D : va_G} {tys : List (ClassId × FieldType)} {av : List Value} {k : Int32} {EX : Int32 → String} (h : MXV l y ws rm D tys av ([] : va_W) k (fun (_ : Unit) => ([] : va_W)) EX) (w : va_W) : MXV l y ws rm D tys av w k (fun (_ : Unit) => w) EX := by
  intro sz
  have mono : ∀ q, va_A [] sz q → va_A w sz q := fun q h => by
    rcases h with ⟨i, e, hk⟩ | h
    · simp at hk
    · exact Or.inr h
  have up : ∀ (st t : State), va_F (va_A [] sz) st t → va_F (va_A w sz) st t := fun st t h => ⟨h.1, fun q hq hn => h.2 q hq (fun z => hn (mono q z))⟩
  refine MetFree.mono (h sz) (fun a s q => ?_) (fun _ _ _ _ _ q => q) (fun a s o t q r => ?_)
  · obtain ⟨q0, ⟨q1, q2, q3, q4, q5⟩, q6, q7⟩ := q
    exact ⟨q0, ⟨q1, fun i z hz => by simp at hz, q3, ⟨fun i j p q hz => by simp at hz, fun i q hz => by simp at hz⟩, q5⟩, q6, q7.narrow mono⟩
  · obtain ⟨q0, ⟨q1, q2, q3, q4, q5⟩, q6, q7⟩ := q
    have keep : va_F (va_A [] sz) s t → cE D (va_A w sz) w t := fun h => ⟨q2.kept (fun i z hi => h.2 z.1 (q2 i z hi).lt (fun x => by
      have hlt := (q2 i z hi).lt
      rcases x with ⟨j, e, hk⟩ | x
      · simp at hk
      · omega)), q4.self⟩
    rcases r with ⟨⟨⟨u, h1, h2, h3⟩, h4⟩, L, h5, h6⟩ | ⟨z, hz, E, ce, L, ⟨u, g1, g2, g3⟩, g4, g5, g6, g7, g8, g9⟩
    · exact Or.inl ⟨⟨⟨u, h1, h2, keep h4⟩, up _ _ h4⟩, L, h5, fun q hq => mono _ (h6 q hq)⟩
    · exact Or.inr ⟨z, hz, E, ce, L, ⟨u, g1, ⟨g2.1, keep g3⟩, up _ _ g3⟩, g4, g5, g6, g7, g8, fun q hq => mono _ (g9 q hq)⟩
theorem ou_not {x lo hi : Int32} (h : ¬ r_X6_outside x lo hi = 0) : r_X7_in x lo hi = 0 := Classical.byContradiction fun q => h (in_ou q)
section
variable {cI : ClassId} {B j : Nat} {sc sc' : Nat → Option Nat} {sl sl' : Nat → Int32} {se se' : Nat → Int64} {sv sv' : Nat → Int32} {S : va_W} {f c : Nat → Int32} {E : Int64} {p0 : Int32}
theorem SL.keep (h : SL cI B j sc sl se sv S) (e1 : sc' j = sc j) (e2 : sv' j = sv j) (e3 : ∀ k, k < 165 → sl' (165 * j + k) = sl (165 * j + k)) (e4 : se' j = se j) : SL cI B j sc' sl' se' sv' S := by
  rcases h with ⟨h1, h2, h3⟩ | ⟨a, f, c, E, h1, h2, h3, h4, h5, h6, h7⟩
  · exact Or.inl ⟨e1.trans h1, e2.trans h2, h3⟩
  · exact Or.inr ⟨a, f, c, E, e1.trans h1, e2.trans h2, h3, h4, h5, fun k hk => (e3 k hk).trans (h6 k hk), e4.trans h7⟩
theorem SL.made {x : Nat → Nat} (hg : Gd f B) (ha : AgN c f) (hin : r_X6_outside p0 0 1 = 0) (hj : p0.toNatClampNeg = j) (hsc : sc' p0.toNatClampNeg = some (x 0)) : SL cI B j sc' (a_h3_X7_save f sl p0) (a_h4_X7_save E se p0) (a_h5_X7_save sv p0) (simW cI x f c E) := by
  subst hj
  refine Or.inr ⟨x, f, c, E, hsc, ?_, rfl, hg, ha, fun k hk => ?_, ?_⟩
  · unfold a_h5_X7_save
    rw [if_neg (ou_in hin), pk_us]
  · unfold a_h3_X7_save
    rw [if_neg (ou_in hin), cpS_at, if_pos (by omega), Nat.add_sub_cancel_left]
  · unfold a_h4_X7_save
    rw [if_neg (ou_in hin), pk_uLs]
theorem SL.other (h : SL cI B j sc sl se sv S) (hin : r_X6_outside p0 0 1 = 0) (hj : p0.toNatClampNeg ≠ j) (hsc : sc' j = sc j) : SL cI B j sc' (a_h3_X7_save f sl p0) (a_h4_X7_save E se p0) (a_h5_X7_save sv p0) S := by
  refine h.keep hsc ?_ (fun k hk => ?_) ?_
  · unfold a_h5_X7_save
    rw [if_neg (ou_in hin), pk_un (Ne.symm hj)]
  · unfold a_h3_X7_save
    rw [if_neg (ou_in hin), cpS_at, if_neg (by omega)]
  · unfold a_h4_X7_save
    rw [if_neg (ou_in hin), pk_uLn (Ne.symm hj)]
theorem SL.out (h : SL cI B j sc sl se sv S) (hin : ¬ r_X6_outside p0 0 1 = 0) : SL cI B j sc (a_h3_X7_save f sl p0) (a_h4_X7_save E se p0) (a_h5_X7_save sv p0) S := by
  refine h.keep rfl ?_ (fun k hk => ?_) ?_
  · unfold a_h5_X7_save
    rw [if_pos (ou_not hin)]
  · unfold a_h3_X7_save
    rw [if_pos (ou_not hin)]
  · unfold a_h4_X7_save
    rw [if_pos (ou_not hin)]
end
section
variable (gi s0c oc md at_ as_ sl_ se_ sv_ : Nat × va_E) (P T SV X Y M : va_W)
theorem pm_s0 : (LB gi s0c oc P T (X ++ Y) M).Perm ((oc :: (T ++ (Y ++ M))) ++ (gi :: s0c :: (P ++ X))) := by
  refine perm_cnt (fun dec x => ?_)
  unfold LB
  simp only [List.count_cons, List.count_append, List.count_nil]
  omega
theorem pm_s1 : (LB gi s0c oc P T (X ++ Y) M).Perm ((oc :: (T ++ (X ++ M))) ++ (gi :: s0c :: (P ++ Y))) := by
  refine perm_cnt (fun dec x => ?_)
  unfold LB
  simp only [List.count_cons, List.count_append, List.count_nil]
  omega
theorem pm_n0 : (LB gi s0c oc P T ([] ++ Y) M).Perm ((oc :: (T ++ (Y ++ M))) ++ (gi :: s0c :: P)) := by
  refine perm_cnt (fun dec x => ?_)
  unfold LB
  simp only [List.count_cons, List.count_append, List.count_nil]
  omega
theorem pm_n1 : (LB gi s0c oc P T (X ++ []) M).Perm ((oc :: (T ++ (X ++ M))) ++ (gi :: s0c :: P)) := by
  refine perm_cnt (fun dec x => ?_)
  unfold LB
  simp only [List.count_cons, List.count_append, List.count_nil]
  omega
theorem pm_12 : (LB gi s0c oc P T SV [md, at_, as_, sl_, se_, sv_]).Perm ((as_ :: gi :: s0c :: oc :: (P ++ (T ++ SV))) ++ [md, at_, sl_, se_, sv_]) := by
  refine perm_cnt (fun dec x => ?_)
  unfold LB
  simp only [List.count_cons, List.count_append, List.count_nil]
  omega
theorem pm_at : (LB gi s0c oc P T SV (md :: at_ :: M)).Perm (at_ :: gi :: s0c :: oc :: md :: (P ++ (T ++ (SV ++ M)))) := by
  refine perm_cnt (fun dec x => ?_)
  unfold LB
  simp only [List.count_cons, List.count_append, List.count_nil]
  omega
end
end SLOTS
set_option maxHeartbeats 4000000 in
set_option maxRecDepth 100000 in
theorem hK_save (l : Launch) (D : va_G) (cI cJ cZ cO : ClassId) (g0 : Nat) (p0 : Int32) (rmX : Room) (EX : Int32 → String) (hE : EX 1 = eA) (hr1 : rmX.frames ≤ 6) (hr2 : rmX.locals ≤ 180) {S0 : Type} (wc : va_W) (wc1 : S0 → va_W) (K : Int32) (fs : List Value) (hg : wc[0]? = some (g0, .inr (6, fs))) (hk : K = 0 ∨ K = 1) (hM : MXV l yX6_save wsX6_save rmX D (tysK cI cJ cZ cO) [.ref g0, .int p0] wc K wc1 EX) :
    HI l yL_save wsL_save ({ frames := 7, cells := rmX.cells, slots := rmX.slots, locals := 230 } : Room) D (tysK cI cJ cZ cO) [.ref g0, .int p0] (wc) K wc1 := by
  refine HI.of (cc := cL_save) (maxL := 3) (hh := [(0, 5, 8, 13)]) (by decide) rfl (Nat.le_of_ble_eq_true rfl) ?_
  intro p e s m args below meth c A Q ls H locs B hxs hzs htab hS hP hD hl hret
  obtain ⟨hx, hb, hml, hown, hts, hK, hN, hA, hlocks⟩ := B
  have hl : lv_has ls 3 [(0, .ref g0), (1, .int p0)] := hl
  refine lv_aload_n hx hb dL_save_0 rfl (lv_at hl 0 rfl) ?_
  refine lv_iload_n hx hb dL_save_1 rfl (lv_at hl 1 rfl) ?_
  refine callX_v (As := [.int p0]) (rest := []) (wr := []) ⟨hx, hb, hml, hown, hts⟩ hM (cwV 1 hts gL_save_X6_save rfl rfl rfl (by decide +kernel) ⟨by show rmX.frames + 1 ≤ 7; omega, by show 8 + (3 + 11) + rmX.locals ≤ 230; omega⟩) hK hN hxs hzs hP hD hS hA 6 0 hg rfl rfl rfl rfl hl.1 (Nat.le_of_ble_eq_true rfl) dL_save_2 ⟨Nat.le_of_eq (Nat.zero_add _), Nat.le_of_eq (Nat.zero_add _)⟩ (fun hk0 u ce q9 H locs hP hD hS hce hcv hcl => ?_) (fun hk0 u H locs hP hD hS => ?_)
  · have hk : K = 1 := hk.resolve_left hk0
    refine vx_catch (own := RL) (name := eA) (E := eA) hown [] ⟨0, 5, 8, 13⟩ [] htab (fun z hz => absurd hz List.not_mem_nil) rfl (by decide) (hts (.classLink RL 13 eA) (by decide +kernel)) (va_Nw.use rfl hxs.2.2.2.1) hce hcv (by rw [hk, hE] at hcl; exact hcl) ?_
    refine lv_astore_n (lv' := [(2, .ref q9), (0, .ref g0), (1, .int p0)]) hx hb dL_save_8 rfl hl (by decide) rfl (fun ls hl => ?_)
    refine lv_iconst (v := 1) hx hb dL_save_9 (by decide) ?_
    exact hret u _ _ _ _ _ _ _ _ hk.symm (rfl) hP hD hS (Nat.le_of_eq (Nat.zero_add _)) (Nat.le_of_eq (Nat.zero_add _)) dL_save_10
  · refine lv_goto (tgt := 11) hx hb dL_save_5 (by decide) ?_
    refine lv_iconst (v := 0) hx hb dL_save_11 (by decide) ?_
    exact hret u _ _ _ _ _ _ _ _ hk0.symm (rfl) hP hD hS (Nat.le_of_eq (Nat.zero_add _)) (Nat.le_of_eq (Nat.zero_add _)) dL_save_12

set_option maxHeartbeats 4000000 in
set_option maxRecDepth 100000 in
theorem hK_restore (l : Launch) (D : va_G) (cI cJ cZ cO : ClassId) (g0 : Nat) (p0 : Int32) (rmX : Room) (hr1 : rmX.frames ≤ 6) (hr2 : rmX.locals ≤ 180) {S0 : Type} (wc : va_W) (wc1 : S0 → va_W) (K : Int32) (fs : List Value) (hg : wc[0]? = some (g0, .inr (6, fs))) (hk : K = 0 ∨ K = 1 ∨ K = 2) (hM : MXV l yX6_restore wsX6_restore rmX D (tysK cI cJ cZ cO) [.ref g0, .int p0] wc K wc1 (fun k => if k = 1 then eA else eS)) :
    HI l yL_restore wsL_restore ({ frames := 7, cells := rmX.cells, slots := rmX.slots, locals := 230 } : Room) D (tysK cI cJ cZ cO) [.ref g0, .int p0] (wc) K wc1 := by
  refine HI.of (cc := cL_restore) (maxL := 3) (hh := [(0, 5, 8, 13), (0, 5, 11, 43)]) (by decide) rfl (Nat.le_of_ble_eq_true rfl) ?_
  intro p e s m args below meth c A Q ls H locs B hxs hzs htab hS hP hD hl hret
  obtain ⟨hx, hb, hml, hown, hts, hK, hN, hA, hlocks⟩ := B
  have hl : lv_has ls 3 [(0, .ref g0), (1, .int p0)] := hl
  refine lv_aload_n hx hb dL_restore_0 rfl (lv_at hl 0 rfl) ?_
  refine lv_iload_n hx hb dL_restore_1 rfl (lv_at hl 1 rfl) ?_
  refine callX_v (As := [.int p0]) (rest := []) (wr := []) ⟨hx, hb, hml, hown, hts⟩ hM (cwV 1 hts gL_restore_X6_restore rfl rfl rfl (by decide +kernel) ⟨by show rmX.frames + 1 ≤ 7; omega, by show 8 + (3 + 11) + rmX.locals ≤ 230; omega⟩) hK hN hxs hzs hP hD hS hA 6 0 hg rfl rfl rfl rfl hl.1 (Nat.le_of_ble_eq_true rfl) dL_restore_2 ⟨Nat.le_of_eq (Nat.zero_add _), Nat.le_of_eq (Nat.zero_add _)⟩ (fun hk0 u ce q9 H locs hP hD hS hce hcv hcl => ?_) (fun hk0 u H locs hP hD hS => ?_)
  · rcases hk with hk | hk | hk
    · exact absurd hk hk0
    · refine vx_catch (own := RL) (name := eA) (E := eA) hown [] ⟨0, 5, 8, 13⟩ [⟨0, 5, 11, 43⟩] htab (fun z hz => absurd hz List.not_mem_nil) rfl (by decide) (hts (.classLink RL 13 eA) (by decide +kernel)) (va_Nw.use rfl hxs.2.2.2.1) hce hcv (by rw [hk] at hcl; exact hcl) ?_
      refine lv_astore_n (lv' := [(2, .ref q9), (0, .ref g0), (1, .int p0)]) hx hb dL_restore_8 rfl hl (by decide) rfl (fun ls hl => ?_)
      refine lv_iconst (v := 1) hx hb dL_restore_9 (by decide) ?_
      exact hret u _ _ _ _ _ _ _ _ hk.symm (rfl) hP hD hS (Nat.le_of_eq (Nat.zero_add _)) (Nat.le_of_eq (Nat.zero_add _)) dL_restore_10
    · refine vx_catch (own := RL) (name := eS) (E := eS) hown [⟨0, 5, 8, 13⟩] ⟨0, 5, 11, 43⟩ [] htab (fun z hz => by cases List.mem_singleton.mp hz; exact Or.inr ⟨by decide, eA, hts (.classLink RL 13 eA) (by decide +kernel), hxs.2.2.2.2.2.2.2⟩) rfl (by decide) (hts (.classLink RL 43 eS) (by decide +kernel)) (va_Nw.use rfl hxs.2.2.2.2.1) hce hcv (by rw [hk] at hcl; exact hcl) ?_
      refine lv_astore_n (lv' := [(2, .ref q9), (0, .ref g0), (1, .int p0)]) hx hb dL_restore_11 rfl hl (by decide) rfl (fun ls hl => ?_)
      refine lv_iconst (v := 2) hx hb dL_restore_12 (by decide) ?_
      exact hret u _ _ _ _ _ _ _ _ hk.symm (rfl) hP hD hS (Nat.le_of_eq (Nat.zero_add _)) (Nat.le_of_eq (Nat.zero_add _)) dL_restore_13
  · refine lv_goto (tgt := 14) hx hb dL_restore_5 (by decide) ?_
    refine lv_iconst (v := 0) hx hb dL_restore_14 (by decide) ?_
    exact hret u _ _ _ _ _ _ _ _ hk0.symm (rfl) hP hD hS (Nat.le_of_eq (Nat.zero_add _)) (Nat.le_of_eq (Nat.zero_add _)) dL_restore_15
variable {p : Program} {l : Launch} {e : Env} {R : Room} {s : State} {m : MethodId} {args : Array Value} {below : List Frame} {meth : Method} {c : Code} {H : Heap} {locs : List Loc} {cells slots : Nat} {Q : State → Prop}
set_option maxHeartbeats 4000000 in
set_option maxRecDepth 100000 in
theorem tl_save {D : va_G} {cI cJ cZ cO : ClassId} {b L g0 o i : Nat} {xs : Nat → Int32} {d0 : Drawn} {ls : Array Slot} {gi s0c oc : Nat × va_E} {P T SV : va_W} {ma : Nat → Nat} {E : Int64} {tw : Int32} {f as sl : Nat → Int32} {se : Nat → Int64} {sv : Nat → Int32} {p0 : Int32} (C : LC p s m args c D cI cJ cZ cO b L xs) (hL : L ≤ 2560) (hi : i + 5 ≤ L) (hR : 10 ≤ R.frames ∧ 376 ≤ R.locals) (hc : cells ≤ R.cells ∧ slots ≤ R.slots) (e0 : xs (i + 1) = p0)
    (hP : va_P D vwCl (LB gi s0c oc P T SV (mdW cI cJ cZ ma E tw f as sl se sv)) H) (hD : va_D (fun q => s.heap.size ≤ q) (LB gi s0c oc P T SV (mdW cI cJ cZ ma E tw f as sl se sv))) (hS : va_S (fun q => s.heap.size ≤ q) s.heap H locs) (hl : lv_has ls 9 (lvL b g0 (ma 0) o i))
    (K : ∀ (H : Heap) (locs : List Loc) (ls : Array Slot), va_P D vwCl (LB gi s0c oc P T SV (mdW cI cJ cZ ma E (v_h0_thrown_X7_save p0) f as (a_h3_X7_save f sl p0) (a_h4_X7_save E se p0) (a_h5_X7_save sv p0))) H → va_D (fun q => s.heap.size ≤ q) (LB gi s0c oc P T SV (mdW cI cJ cZ ma E (v_h0_thrown_X7_save p0) f as (a_h3_X7_save f sl p0) (a_h4_X7_save E se p0) (a_h5_X7_save sv p0))) → va_S (fun q => s.heap.size ≤ q) s.heap H locs → lv_has ls 9 (lvL b g0 (ma 0) o i) → W p l e R (s.setDrawn d0) m args below meth c H locs cells slots Q (F0 m 1414 ls [])) :
    W p l e R (s.setDrawn d0) m args below meth c H locs cells slots Q (F0 m 1352 ls [.int (v_h0_thrown_X7_save p0)]) := by
  obtain ⟨hx, hb, hml, hown, hts, hK, hN, hxs, hz0, hX, hbl⟩ := C
  have hts := dr_words hts d0
  have hown : (s.setDrawn d0).vm.findClass RL = some m.cls := hown
  have hX : va_X b L xs (s.setDrawn d0) s.heap := hX
  have hK : va_K D vwCl (tysK cI cJ cZ cO) (s.setDrawn d0) := hK
  have hN : NW (s.setDrawn d0) := NW.same (u := s) (U := s.setDrawn d0) rfl hN
  have hbA : ¬ (fun q : Nat => s.heap.size ≤ q) b := Nat.not_le.mpr hbl
  have hA : ∀ q : Nat, s.heap.size ≤ q → (fun q : Nat => s.heap.size ≤ q) q := fun _ h => h
  refine lv_istore (lv' := (5, .int (v_h0_thrown_X7_save p0)) :: lvL b g0 (ma 0) o i) hx hb dL_law_1352 hl (by decide) rfl (fun ls hl => ?_)
  refine lv_aload_n hx hb dL_law_1354 rfl (lv_at hl 3 rfl) ?_
  refine lv_aload_n hx hb dL_law_1355 rfl (lv_at hl 1 rfl) ?_
  refine lv_iload hx hb dL_law_1356 (lv_at hl 5 rfl) ?_
  refine lv_iconst (v := 1) hx hb dL_law_1358 (by decide) ?_
  refine lv_iadd hx hb dL_law_1359 ?_
  refine r_scr hx hb hX hbl hbA hS (i := i + 1) (by omega) hL (nI_1 i) dL_law_1360 ?_
  rw [e0]
  refine callM_v (As := [.int p0]) (rest := []) ⟨hx, hb, hml, hown, hts⟩ (mX7_save l D cI cJ cZ cO (ma 0) (ma 1) (ma 2) (ma 3) (ma 4) (ma 5) E tw f sl se sv p0) (cwV 1 hts gL_law_X7_save rfl rfl rfl (by decide +kernel) ⟨by show 1 + 1 ≤ R.frames; omega, by show 8 + (3 + 11) + 22 ≤ R.locals; omega⟩) hK hN (P_perm (pm_12 gi s0c oc _ _ _ _ _ _ P T SV) hP) (D_perm (pm_12 gi s0c oc _ _ _ _ _ _ P T SV) hD) hS hA 7 0 rfl rfl rfl rfl rfl hl.1 (Nat.le_of_ble_eq_true rfl) dL_law_1361 ⟨by show cells + 0 ≤ R.cells; omega, by show slots + 0 ≤ R.slots; omega⟩ (fun u H locs hP hD hS => ?_)
  replace hP := P_perm (pm_12 gi s0c oc _ _ _ _ _ _ P T SV).symm hP
  replace hD := D_perm (pm_12 gi s0c oc _ _ _ _ _ _ P T SV).symm hD
  refine lv_aload_n hx hb dL_law_1364 rfl (lv_at hl 3 rfl) ?_
  refine callM_i (As := []) (rest := []) ⟨hx, hb, hml, hown, hts⟩ (mX7_thrown l D cI cJ cZ cO (ma 0) (ma 1) (ma 2) (ma 3) (ma 4) (ma 5) E (v_h0_thrown_X7_save p0)) (cwV 0 hts gL_law_X7_thrown rfl rfl rfl (by decide +kernel) ⟨by show 0 + 1 ≤ R.frames; omega, by show 8 + (1 + 11) + 0 ≤ R.locals; omega⟩) hK hN (P_perm (pm_8 _ _ _ _ _ _ _ _) hP) (D_perm (pm_8 _ _ _ _ _ _ _ _) hD) hS hA 7 0 rfl rfl rfl rfl rfl hl.1 (Nat.le_of_ble_eq_true rfl) dL_law_1365 ⟨by show cells + 0 + 0 ≤ R.cells; omega, by show slots + 0 + 0 ≤ R.slots; omega⟩ (fun H locs hP hD hS => ?_)
  replace hP := P_perm (pm_8 gi s0c oc _ P T SV _).symm hP
  replace hD := D_perm (pm_8 gi s0c oc _ P T SV _).symm hD
  refine lv_iload hx hb dL_law_1368 (lv_at hl 0 rfl) ?_
  refine lv_icmp_eq (tgt := 1375) hx hb dL_law_1370 (by decide) (fun _ => ?_) (fun h => absurd rfl h)
  refine lv_goto (tgt := 1414) hx hb dL_law_1375 (by decide) ?_
  exact K _ _ _ hP hD hS (lv_sub hl [1, 2, 3, 4, 5] rfl)

set_option maxHeartbeats 4000000 in
set_option maxRecDepth 100000 in
theorem tl_restore {D : va_G} {cI cJ cZ cO : ClassId} {b L g0 o i : Nat} {xs : Nat → Int32} {d0 : Drawn} {ls : Array Slot} {gi s0c oc : Nat × va_E} {P T SV : va_W} {ma : Nat → Nat} {E : Int64} {tw : Int32} {f as sl : Nat → Int32} {se : Nat → Int64} {sv : Nat → Int32} {p0 : Int32} (C : LC p s m args c D cI cJ cZ cO b L xs) (hL : L ≤ 2560) (hi : i + 5 ≤ L) (hR : 10 ≤ R.frames ∧ 376 ≤ R.locals) (hc : cells ≤ R.cells ∧ slots ≤ R.slots) (e0 : xs (i + 1) = p0)
    (hP : va_P D vwCl (LB gi s0c oc P T SV (mdW cI cJ cZ ma E tw f as sl se sv)) H) (hD : va_D (fun q => s.heap.size ≤ q) (LB gi s0c oc P T SV (mdW cI cJ cZ ma E tw f as sl se sv))) (hS : va_S (fun q => s.heap.size ≤ q) s.heap H locs) (hl : lv_has ls 9 (lvL b g0 (ma 0) o i))
    (K : ∀ (H : Heap) (locs : List Loc) (ls : Array Slot), va_P D vwCl (LB gi s0c oc P T SV (mdW cI cJ cZ ma (v_h0_energy_X7_restore E se sv p0) (v_h0_thrown_X7_restore sv p0) (a_h1_X7_restore f sl sv p0) as sl se sv)) H → va_D (fun q => s.heap.size ≤ q) (LB gi s0c oc P T SV (mdW cI cJ cZ ma (v_h0_energy_X7_restore E se sv p0) (v_h0_thrown_X7_restore sv p0) (a_h1_X7_restore f sl sv p0) as sl se sv)) → va_S (fun q => s.heap.size ≤ q) s.heap H locs → lv_has ls 9 (lvL b g0 (ma 0) o i) → W p l e R (s.setDrawn d0) m args below meth c H locs cells slots Q (F0 m 1414 ls [])) :
    W p l e R (s.setDrawn d0) m args below meth c H locs cells slots Q (F0 m 1388 ls [.int (v_h0_thrown_X7_restore sv p0)]) := by
  obtain ⟨hx, hb, hml, hown, hts, hK, hN, hxs, hz0, hX, hbl⟩ := C
  have hts := dr_words hts d0
  have hown : (s.setDrawn d0).vm.findClass RL = some m.cls := hown
  have hX : va_X b L xs (s.setDrawn d0) s.heap := hX
  have hK : va_K D vwCl (tysK cI cJ cZ cO) (s.setDrawn d0) := hK
  have hN : NW (s.setDrawn d0) := NW.same (u := s) (U := s.setDrawn d0) rfl hN
  have hbA : ¬ (fun q : Nat => s.heap.size ≤ q) b := Nat.not_le.mpr hbl
  have hA : ∀ q : Nat, s.heap.size ≤ q → (fun q : Nat => s.heap.size ≤ q) q := fun _ h => h
  refine lv_istore (lv' := (5, .int (v_h0_thrown_X7_restore sv p0)) :: lvL b g0 (ma 0) o i) hx hb dL_law_1388 hl (by decide) rfl (fun ls hl => ?_)
  refine lv_aload_n hx hb dL_law_1390 rfl (lv_at hl 3 rfl) ?_
  refine lv_aload_n hx hb dL_law_1391 rfl (lv_at hl 1 rfl) ?_
  refine lv_iload hx hb dL_law_1392 (lv_at hl 5 rfl) ?_
  refine lv_iconst (v := 1) hx hb dL_law_1394 (by decide) ?_
  refine lv_iadd hx hb dL_law_1395 ?_
  refine r_scr hx hb hX hbl hbA hS (i := i + 1) (by omega) hL (nI_1 i) dL_law_1396 ?_
  rw [e0]
  refine callM_v (As := [.int p0]) (rest := []) ⟨hx, hb, hml, hown, hts⟩ (mX7_restore l D cI cJ cZ cO (ma 0) (ma 1) (ma 2) (ma 3) (ma 4) (ma 5) E tw f sl se sv p0) (cwV 1 hts gL_law_X7_restore rfl rfl rfl (by decide +kernel) ⟨by show 1 + 1 ≤ R.frames; omega, by show 8 + (3 + 11) + 22 ≤ R.locals; omega⟩) hK hN (P_perm (pm_12 gi s0c oc _ _ _ _ _ _ P T SV) hP) (D_perm (pm_12 gi s0c oc _ _ _ _ _ _ P T SV) hD) hS hA 7 0 rfl rfl rfl rfl rfl hl.1 (Nat.le_of_ble_eq_true rfl) dL_law_1397 ⟨by show cells + 0 ≤ R.cells; omega, by show slots + 0 ≤ R.slots; omega⟩ (fun u H locs hP hD hS => ?_)
  replace hP := P_perm (pm_12 gi s0c oc _ _ _ _ _ _ P T SV).symm hP
  replace hD := D_perm (pm_12 gi s0c oc _ _ _ _ _ _ P T SV).symm hD
  refine lv_aload_n hx hb dL_law_1400 rfl (lv_at hl 3 rfl) ?_
  refine callM_i (As := []) (rest := []) ⟨hx, hb, hml, hown, hts⟩ (mX7_thrown l D cI cJ cZ cO (ma 0) (ma 1) (ma 2) (ma 3) (ma 4) (ma 5) (v_h0_energy_X7_restore E se sv p0) (v_h0_thrown_X7_restore sv p0)) (cwV 0 hts gL_law_X7_thrown rfl rfl rfl (by decide +kernel) ⟨by show 0 + 1 ≤ R.frames; omega, by show 8 + (1 + 11) + 0 ≤ R.locals; omega⟩) hK hN (P_perm (pm_8 _ _ _ _ _ _ _ _) hP) (D_perm (pm_8 _ _ _ _ _ _ _ _) hD) hS hA 7 0 rfl rfl rfl rfl rfl hl.1 (Nat.le_of_ble_eq_true rfl) dL_law_1401 ⟨by show cells + 0 + 0 ≤ R.cells; omega, by show slots + 0 + 0 ≤ R.slots; omega⟩ (fun H locs hP hD hS => ?_)
  replace hP := P_perm (pm_8 gi s0c oc _ P T SV _).symm hP
  replace hD := D_perm (pm_8 gi s0c oc _ P T SV _).symm hD
  refine lv_iload hx hb dL_law_1404 (lv_at hl 0 rfl) ?_
  refine lv_icmp_eq (tgt := 1411) hx hb dL_law_1406 (by decide) (fun _ => ?_) (fun h => absurd rfl h)
  refine lv_goto (tgt := 1414) hx hb dL_law_1411 (by decide) ?_
  exact K _ _ _ hP hD hS (lv_sub hl [1, 2, 3, 4, 5] rfl)

set_option maxHeartbeats 4000000 in
set_option maxRecDepth 100000 in
theorem kc_save {D : va_G} {cI cJ cZ cO : ClassId} {b L g0 m0 o i B : Nat} {xs : Nat → Int32} {W1 : va_W} {d0 : Drawn} {ls : Array Slot} (hlt : l.stackTraces = false) (C : LC p s m args c D cI cJ cZ cO b L xs) (hL : L ≤ 2560) (hi : i + 5 ≤ L) (hR : 10 ≤ R.frames ∧ 376 ≤ R.locals) (hc : cells + 20 ≤ R.cells ∧ slots + 400 ≤ R.slots)
    (hI : LI cI cJ cZ cO g0 m0 o B W1) (hP : va_P D vwCl W1 H) (hD : va_D (fun q => s.heap.size ≤ q) W1) (hS : va_S (fun q => s.heap.size ≤ q) s.heap H locs) (hd0 : s.drawn.sameBut d0 lw_cs) (hl : lv_has ls 9 (lvL b g0 m0 o i))
    (K : KN p l e R s m args below meth c D cI cJ cZ cO Q b g0 m0 o i B cells slots) : W p l e R (s.setDrawn d0) m args below meth c H locs cells slots Q (F0 m 1342 ls []) := by
  have C9 := C
  obtain ⟨hx, hb, hml, hown, hts, hK, hN, hxs, hz0, hX, hbl⟩ := C
  have hts := dr_words hts d0
  have hown : (s.setDrawn d0).vm.findClass RL = some m.cls := hown
  have hX : va_X b L xs (s.setDrawn d0) s.heap := hX
  have hK : va_K D vwCl (tysK cI cJ cZ cO) (s.setDrawn d0) := hK
  have hN : NW (s.setDrawn d0) := NW.same (u := s) (U := s.setDrawn d0) rfl hN
  have hxs : XS (s.setDrawn d0) := XS.same (u := s) (U := s.setDrawn d0) rfl hxs
  have hz0 : ZS (fun q => s.heap.size ≤ q) (s.setDrawn d0) s.heap := hz0.moved (U := s.setDrawn d0) (Vm.Alike.refl s.vm)
  have hbA : ¬ (fun q : Nat => s.heap.size ≤ q) b := Nat.not_le.mpr hbl
  have hA : ∀ q : Nat, s.heap.size ≤ q → (fun q : Nat => s.heap.size ≤ q) q := fun _ h => h
  obtain ⟨a, bt, f, cf, E, fb, cb, eb, s0, sc, S0, S1, ma, tw, as, sl, se, sv, ov, rfl, rfl, hg, ha, hs0, hs1⟩ := hI

  refine lv_aload_n hx hb dL_law_1342 rfl (lv_at hl 1 rfl) ?_
  refine lv_aload_n hx hb dL_law_1343 rfl (lv_at hl 0 rfl) ?_
  refine lv_iload hx hb dL_law_1344 (lv_at hl 4 rfl) ?_
  refine lv_iconst (v := 1) hx hb dL_law_1346 (by decide) ?_
  refine lv_iadd hx hb dL_law_1347 ?_
  refine r_scr hx hb hX hbl hbA hS (i := i + 1) (by omega) hL (nI_1 i) dL_law_1348 ?_
  obtain ⟨p0, e0⟩ : ∃ x, xs (i + 1) = x := ⟨_, rfl⟩
  rw [e0]
  by_cases hin : r_X6_outside p0 0 1 = 0
  · obtain ⟨-, -, hj1⟩ := ou_n (lo := 0) (hi := 1) (by decide) (by decide) hin
    rcases (show p0.toNatClampNeg = 0 ∨ p0.toNatClampNeg = 1 by omega) with hj | hj
    · have hsj := hs0
      rcases hs0 with ⟨c1, c2, rfl⟩ | ⟨x, fx, cx, Ex, c1, c2, rfl, c4, c5, c6, c7⟩
      · have hsc : sc p0.toNatClampNeg = none := by rw [hj]; exact c1
        have hk0 : (0 : Int32) = v_h0_thrown_X7_save p0 := by unfold v_h0_thrown_X7_save; rw [if_neg (ou_in hin)]
        refine callH (hh := _) (As := [.ref g0, .int p0]) (rest := []) ⟨hx, hb, hml, hown, hts⟩ (hK_save l D cI cJ cZ cO g0 p0 _ (fun _ => eA) rfl (by decide) (by decide) (giC g0 (a 0) (bt 0) s0 :: scC cO s0 sc :: simW cI a f cf E) (fun (u : Nat → Nat) => giC g0 (a 0) (bt 0) s0 :: scC cO s0 (va_up sc p0.toNatClampNeg (some (u 0))) :: (simW cI a f cf E ++ simW cI u f cf E)) (v_h0_thrown_X7_save p0) _ rfl (by unfold v_h0_thrown_X7_save; (repeat' split) <;> first | exact Or.inl rfl | exact Or.inr rfl) ((wrX6_saveN l hlt D cI cJ cZ cO g0 (bt 0) s0 a f cf E sc p0 hg.1.co hin hsc).to hk0 id (fun _ _ h => h) (fun _ _ h => h))) (vx_cwSW 2 hts gL_law_L_save rfl rfl rfl (by decide +kernel) ⟨by show 7 + 1 ≤ R.frames; omega, by show 8 + (3 + 11) + 230 ≤ R.locals; omega⟩) hK hN hxs hz0 (P_perm (pm_n0 _ _ _ _ _ _ _) hP) (D_perm (pm_n0 _ _ _ _ _ _ _) hD) hS hA rfl rfl hl.1 (Nat.le_of_ble_eq_true rfl) dL_law_1349 ⟨by show cells + 13 ≤ R.cells; omega, by show slots + 178 ≤ R.slots; omega⟩ (fun u H locs hP hD hS => ?_)
        replace hP := P_perm (pm_s0 (giC g0 (a 0) (bt 0) s0) (scC cO s0 (va_up sc p0.toNatClampNeg (some (u 0)))) (ocC cJ o ov) (simW cI a f cf E) (simW cI bt fb cb eb) (simW cI u f cf E) S1 (mdW cI cJ cZ ma E tw f as sl se sv)).symm hP
        replace hD := D_perm (pm_s0 (giC g0 (a 0) (bt 0) s0) (scC cO s0 (va_up sc p0.toNatClampNeg (some (u 0)))) (ocC cJ o ov) (simW cI a f cf E) (simW cI bt fb cb eb) (simW cI u f cf E) S1 (mdW cI cJ cZ ma E tw f as sl se sv)).symm hD
        refine tl_save (cells := cells + 13) (slots := slots + 178) C9 hL hi hR ⟨by omega, by omega⟩ e0 hP hD hS hl (fun H locs ls hP hD hS hl => ?_)
        refine W.widen (k := cells + 20) (n := slots + 400) (by omega) (by omega) ?_
        exact K _ H locs d0 ls ⟨a, bt, f, cf, E, fb, cb, eb, s0, _, simW cI u f cf E, S1, ma, _, as, _, _, _, ov, rfl, rfl, hg.up (by omega), ha, (SL.made (hg.up (by omega)) ha hin hj (va_up_self _ _ _)), ((hs1.up (by omega)).other hin (by omega) (va_up_ne _ _ (by omega)))⟩ hP hD hS hd0 hl
      · have hsc : sc p0.toNatClampNeg = some (x 0) := by rw [hj]; exact c1
        have hk0 : (0 : Int32) = v_h0_thrown_X7_save p0 := by unfold v_h0_thrown_X7_save; rw [if_neg (ou_in hin)]
        refine callH (hh := _) (As := [.ref g0, .int p0]) (rest := []) ⟨hx, hb, hml, hown, hts⟩ (hK_save l D cI cJ cZ cO g0 p0 _ (fun _ => eA) rfl (by decide) (by decide) (giC g0 (a 0) (bt 0) s0 :: scC cO s0 sc :: (simW cI a f cf E ++ simW cI x fx cx Ex)) (fun (_ : Unit) => giC g0 (a 0) (bt 0) s0 :: scC cO s0 sc :: (simW cI a f cf E ++ simW cI x f cf E)) (v_h0_thrown_X7_save p0) _ rfl (by unfold v_h0_thrown_X7_save; (repeat' split) <;> first | exact Or.inl rfl | exact Or.inr rfl) ((wrX6_saveO l hlt D cI cJ cZ cO g0 (bt 0) s0 a f cf E x fx cx Ex sc p0 hg.1.co hin hsc).to hk0 id (fun _ _ h => h) (fun _ _ h => h))) (vx_cwSW 2 hts gL_law_L_save rfl rfl rfl (by decide +kernel) ⟨by show 7 + 1 ≤ R.frames; omega, by show 8 + (3 + 11) + 230 ≤ R.locals; omega⟩) hK hN hxs hz0 (P_perm (pm_s0 _ _ _ _ _ _ _ _) hP) (D_perm (pm_s0 _ _ _ _ _ _ _ _) hD) hS hA rfl rfl hl.1 (Nat.le_of_ble_eq_true rfl) dL_law_1349 ⟨by show cells + 0 ≤ R.cells; omega, by show slots + 0 ≤ R.slots; omega⟩ (fun u H locs hP hD hS => ?_)
        replace hP := P_perm (pm_s0 (giC g0 (a 0) (bt 0) s0) (scC cO s0 sc) (ocC cJ o ov) (simW cI a f cf E) (simW cI bt fb cb eb) (simW cI x f cf E) S1 (mdW cI cJ cZ ma E tw f as sl se sv)).symm hP
        replace hD := D_perm (pm_s0 (giC g0 (a 0) (bt 0) s0) (scC cO s0 sc) (ocC cJ o ov) (simW cI a f cf E) (simW cI bt fb cb eb) (simW cI x f cf E) S1 (mdW cI cJ cZ ma E tw f as sl se sv)).symm hD
        refine tl_save (cells := cells + 0) (slots := slots + 0) C9 hL hi hR ⟨by omega, by omega⟩ e0 hP hD hS hl (fun H locs ls hP hD hS hl => ?_)
        refine W.widen (k := cells + 20) (n := slots + 400) (by omega) (by omega) ?_
        exact K _ H locs d0 ls ⟨a, bt, f, cf, E, fb, cb, eb, s0, sc, simW cI x f cf E, S1, ma, _, as, _, _, _, ov, rfl, rfl, hg.up (by omega), ha, (SL.made (hg.up (by omega)) ha hin hj hsc), ((hs1.up (by omega)).other hin (by omega) rfl)⟩ hP hD hS hd0 hl
    · have hsj := hs1
      rcases hs1 with ⟨c1, c2, rfl⟩ | ⟨x, fx, cx, Ex, c1, c2, rfl, c4, c5, c6, c7⟩
      · have hsc : sc p0.toNatClampNeg = none := by rw [hj]; exact c1
        have hk0 : (0 : Int32) = v_h0_thrown_X7_save p0 := by unfold v_h0_thrown_X7_save; rw [if_neg (ou_in hin)]
        refine callH (hh := _) (As := [.ref g0, .int p0]) (rest := []) ⟨hx, hb, hml, hown, hts⟩ (hK_save l D cI cJ cZ cO g0 p0 _ (fun _ => eA) rfl (by decide) (by decide) (giC g0 (a 0) (bt 0) s0 :: scC cO s0 sc :: simW cI a f cf E) (fun (u : Nat → Nat) => giC g0 (a 0) (bt 0) s0 :: scC cO s0 (va_up sc p0.toNatClampNeg (some (u 0))) :: (simW cI a f cf E ++ simW cI u f cf E)) (v_h0_thrown_X7_save p0) _ rfl (by unfold v_h0_thrown_X7_save; (repeat' split) <;> first | exact Or.inl rfl | exact Or.inr rfl) ((wrX6_saveN l hlt D cI cJ cZ cO g0 (bt 0) s0 a f cf E sc p0 hg.1.co hin hsc).to hk0 id (fun _ _ h => h) (fun _ _ h => h))) (vx_cwSW 2 hts gL_law_L_save rfl rfl rfl (by decide +kernel) ⟨by show 7 + 1 ≤ R.frames; omega, by show 8 + (3 + 11) + 230 ≤ R.locals; omega⟩) hK hN hxs hz0 (P_perm (pm_n1 _ _ _ _ _ _ _) hP) (D_perm (pm_n1 _ _ _ _ _ _ _) hD) hS hA rfl rfl hl.1 (Nat.le_of_ble_eq_true rfl) dL_law_1349 ⟨by show cells + 13 ≤ R.cells; omega, by show slots + 178 ≤ R.slots; omega⟩ (fun u H locs hP hD hS => ?_)
        replace hP := P_perm (pm_s1 (giC g0 (a 0) (bt 0) s0) (scC cO s0 (va_up sc p0.toNatClampNeg (some (u 0)))) (ocC cJ o ov) (simW cI a f cf E) (simW cI bt fb cb eb) S0 (simW cI u f cf E) (mdW cI cJ cZ ma E tw f as sl se sv)).symm hP
        replace hD := D_perm (pm_s1 (giC g0 (a 0) (bt 0) s0) (scC cO s0 (va_up sc p0.toNatClampNeg (some (u 0)))) (ocC cJ o ov) (simW cI a f cf E) (simW cI bt fb cb eb) S0 (simW cI u f cf E) (mdW cI cJ cZ ma E tw f as sl se sv)).symm hD
        refine tl_save (cells := cells + 13) (slots := slots + 178) C9 hL hi hR ⟨by omega, by omega⟩ e0 hP hD hS hl (fun H locs ls hP hD hS hl => ?_)
        refine W.widen (k := cells + 20) (n := slots + 400) (by omega) (by omega) ?_
        exact K _ H locs d0 ls ⟨a, bt, f, cf, E, fb, cb, eb, s0, _, S0, simW cI u f cf E, ma, _, as, _, _, _, ov, rfl, rfl, hg.up (by omega), ha, ((hs0.up (by omega)).other hin (by omega) (va_up_ne _ _ (by omega))), (SL.made (hg.up (by omega)) ha hin hj (va_up_self _ _ _))⟩ hP hD hS hd0 hl
      · have hsc : sc p0.toNatClampNeg = some (x 0) := by rw [hj]; exact c1
        have hk0 : (0 : Int32) = v_h0_thrown_X7_save p0 := by unfold v_h0_thrown_X7_save; rw [if_neg (ou_in hin)]
        refine callH (hh := _) (As := [.ref g0, .int p0]) (rest := []) ⟨hx, hb, hml, hown, hts⟩ (hK_save l D cI cJ cZ cO g0 p0 _ (fun _ => eA) rfl (by decide) (by decide) (giC g0 (a 0) (bt 0) s0 :: scC cO s0 sc :: (simW cI a f cf E ++ simW cI x fx cx Ex)) (fun (_ : Unit) => giC g0 (a 0) (bt 0) s0 :: scC cO s0 sc :: (simW cI a f cf E ++ simW cI x f cf E)) (v_h0_thrown_X7_save p0) _ rfl (by unfold v_h0_thrown_X7_save; (repeat' split) <;> first | exact Or.inl rfl | exact Or.inr rfl) ((wrX6_saveO l hlt D cI cJ cZ cO g0 (bt 0) s0 a f cf E x fx cx Ex sc p0 hg.1.co hin hsc).to hk0 id (fun _ _ h => h) (fun _ _ h => h))) (vx_cwSW 2 hts gL_law_L_save rfl rfl rfl (by decide +kernel) ⟨by show 7 + 1 ≤ R.frames; omega, by show 8 + (3 + 11) + 230 ≤ R.locals; omega⟩) hK hN hxs hz0 (P_perm (pm_s1 _ _ _ _ _ _ _ _) hP) (D_perm (pm_s1 _ _ _ _ _ _ _ _) hD) hS hA rfl rfl hl.1 (Nat.le_of_ble_eq_true rfl) dL_law_1349 ⟨by show cells + 0 ≤ R.cells; omega, by show slots + 0 ≤ R.slots; omega⟩ (fun u H locs hP hD hS => ?_)
        replace hP := P_perm (pm_s1 (giC g0 (a 0) (bt 0) s0) (scC cO s0 sc) (ocC cJ o ov) (simW cI a f cf E) (simW cI bt fb cb eb) S0 (simW cI x f cf E) (mdW cI cJ cZ ma E tw f as sl se sv)).symm hP
        replace hD := D_perm (pm_s1 (giC g0 (a 0) (bt 0) s0) (scC cO s0 sc) (ocC cJ o ov) (simW cI a f cf E) (simW cI bt fb cb eb) S0 (simW cI x f cf E) (mdW cI cJ cZ ma E tw f as sl se sv)).symm hD
        refine tl_save (cells := cells + 0) (slots := slots + 0) C9 hL hi hR ⟨by omega, by omega⟩ e0 hP hD hS hl (fun H locs ls hP hD hS hl => ?_)
        refine W.widen (k := cells + 20) (n := slots + 400) (by omega) (by omega) ?_
        exact K _ H locs d0 ls ⟨a, bt, f, cf, E, fb, cb, eb, s0, sc, S0, simW cI x f cf E, ma, _, as, _, _, _, ov, rfl, rfl, hg.up (by omega), ha, ((hs0.up (by omega)).other hin (by omega) rfl), (SL.made (hg.up (by omega)) ha hin hj hsc)⟩ hP hD hS hd0 hl
  · have hk0 : (1 : Int32) = v_h0_thrown_X7_save p0 := by unfold v_h0_thrown_X7_save; rw [if_pos (ou_not hin)]
    refine callH (hh := _) (As := [.ref g0, .int p0]) (rest := []) ⟨hx, hb, hml, hown, hts⟩ (hK_save l D cI cJ cZ cO g0 p0 _ (fun k => if k = 1 then eA else eS) (if_pos rfl) (by decide) (by decide) (giC g0 (a 0) (bt 0) s0 :: simW cI a f cf E) (fun (_ : Unit) => giC g0 (a 0) (bt 0) s0 :: simW cI a f cf E) (v_h0_thrown_X7_save p0) _ rfl (by unfold v_h0_thrown_X7_save; (repeat' split) <;> first | exact Or.inl rfl | exact Or.inr rfl) (((mX6_saveE l hlt D cI cJ cZ cO g0 p0 hin).frame (giC g0 (a 0) (bt 0) s0 :: simW cI a f cf E)).to hk0 id (fun _ _ h => h) (fun _ _ h => h))) (vx_cwSW 2 hts gL_law_L_save rfl rfl rfl (by decide +kernel) ⟨by show 7 + 1 ≤ R.frames; omega, by show 8 + (3 + 11) + 230 ≤ R.locals; omega⟩) hK hN hxs hz0 (P_perm (pm_1 _ _ _ _ _ _ _) hP) (D_perm (pm_1 _ _ _ _ _ _ _) hD) hS hA rfl rfl hl.1 (Nat.le_of_ble_eq_true rfl) dL_law_1349 ⟨by show cells + 1 ≤ R.cells; omega, by show slots + 6 ≤ R.slots; omega⟩ (fun u H locs hP hD hS => ?_)
    replace hP := P_perm (pm_1 (giC g0 (a 0) (bt 0) s0) (scC cO s0 sc) (ocC cJ o ov) (simW cI a f cf E) (simW cI bt fb cb eb) (S0 ++ S1) (mdW cI cJ cZ ma E tw f as sl se sv)).symm hP
    replace hD := D_perm (pm_1 (giC g0 (a 0) (bt 0) s0) (scC cO s0 sc) (ocC cJ o ov) (simW cI a f cf E) (simW cI bt fb cb eb) (S0 ++ S1) (mdW cI cJ cZ ma E tw f as sl se sv)).symm hD
    refine tl_save (cells := cells + 1) (slots := slots + 6) C9 hL hi hR ⟨by omega, by omega⟩ e0 hP hD hS hl (fun H locs ls hP hD hS hl => ?_)
    refine W.widen (k := cells + 20) (n := slots + 400) (by omega) (by omega) ?_
    exact K _ H locs d0 ls ⟨a, bt, f, cf, E, fb, cb, eb, s0, sc, S0, S1, ma, _, as, _, _, _, ov, rfl, rfl, hg.up (by omega), ha, (hs0.up (by omega)).out hin, (hs1.up (by omega)).out hin⟩ hP hD hS hd0 hl

set_option maxHeartbeats 4000000 in
set_option maxRecDepth 100000 in
theorem kc_restore {D : va_G} {cI cJ cZ cO : ClassId} {b L g0 m0 o i B : Nat} {xs : Nat → Int32} {W1 : va_W} {d0 : Drawn} {ls : Array Slot} (hlt : l.stackTraces = false) (C : LC p s m args c D cI cJ cZ cO b L xs) (hL : L ≤ 2560) (hi : i + 5 ≤ L) (hR : 10 ≤ R.frames ∧ 376 ≤ R.locals) (hc : cells + 20 ≤ R.cells ∧ slots + 400 ≤ R.slots)
    (hI : LI cI cJ cZ cO g0 m0 o B W1) (hP : va_P D vwCl W1 H) (hD : va_D (fun q => s.heap.size ≤ q) W1) (hS : va_S (fun q => s.heap.size ≤ q) s.heap H locs) (hd0 : s.drawn.sameBut d0 lw_cs) (hl : lv_has ls 9 (lvL b g0 m0 o i))
    (K : KN p l e R s m args below meth c D cI cJ cZ cO Q b g0 m0 o i B cells slots) : W p l e R (s.setDrawn d0) m args below meth c H locs cells slots Q (F0 m 1378 ls []) := by
  have C9 := C
  obtain ⟨hx, hb, hml, hown, hts, hK, hN, hxs, hz0, hX, hbl⟩ := C
  have hts := dr_words hts d0
  have hown : (s.setDrawn d0).vm.findClass RL = some m.cls := hown
  have hX : va_X b L xs (s.setDrawn d0) s.heap := hX
  have hK : va_K D vwCl (tysK cI cJ cZ cO) (s.setDrawn d0) := hK
  have hN : NW (s.setDrawn d0) := NW.same (u := s) (U := s.setDrawn d0) rfl hN
  have hxs : XS (s.setDrawn d0) := XS.same (u := s) (U := s.setDrawn d0) rfl hxs
  have hz0 : ZS (fun q => s.heap.size ≤ q) (s.setDrawn d0) s.heap := hz0.moved (U := s.setDrawn d0) (Vm.Alike.refl s.vm)
  have hbA : ¬ (fun q : Nat => s.heap.size ≤ q) b := Nat.not_le.mpr hbl
  have hA : ∀ q : Nat, s.heap.size ≤ q → (fun q : Nat => s.heap.size ≤ q) q := fun _ h => h
  obtain ⟨a, bt, f, cf, E, fb, cb, eb, s0, sc, S0, S1, ma, tw, as, sl, se, sv, ov, rfl, rfl, hg, ha, hs0, hs1⟩ := hI

  refine lv_aload_n hx hb dL_law_1378 rfl (lv_at hl 1 rfl) ?_
  refine lv_aload_n hx hb dL_law_1379 rfl (lv_at hl 0 rfl) ?_
  refine lv_iload hx hb dL_law_1380 (lv_at hl 4 rfl) ?_
  refine lv_iconst (v := 1) hx hb dL_law_1382 (by decide) ?_
  refine lv_iadd hx hb dL_law_1383 ?_
  refine r_scr hx hb hX hbl hbA hS (i := i + 1) (by omega) hL (nI_1 i) dL_law_1384 ?_
  obtain ⟨p0, e0⟩ : ∃ x, xs (i + 1) = x := ⟨_, rfl⟩
  rw [e0]
  by_cases hin : r_X6_outside p0 0 1 = 0
  · obtain ⟨-, -, hj1⟩ := ou_n (lo := 0) (hi := 1) (by decide) (by decide) hin
    rcases (show p0.toNatClampNeg = 0 ∨ p0.toNatClampNeg = 1 by omega) with hj | hj
    · have hsj := hs0
      rcases hs0 with ⟨c1, c2, rfl⟩ | ⟨x, fx, cx, Ex, c1, c2, rfl, c4, c5, c6, c7⟩
      · have hsc : sc p0.toNatClampNeg = none := by rw [hj]; exact c1
        have hv : sv p0.toNatClampNeg = 0 := by rw [hj]; exact c2
        have hk0 : (2 : Int32) = v_h0_thrown_X7_restore sv p0 := by unfold v_h0_thrown_X7_restore; rw [if_neg (ou_in hin), if_pos hv]
        have ea : a_h1_X7_restore f sl sv p0 = f := by unfold a_h1_X7_restore; rw [if_neg (ou_in hin), if_pos hv]
        have ee : v_h0_energy_X7_restore E se sv p0 = E := by unfold v_h0_energy_X7_restore; rw [if_neg (ou_in hin), if_pos hv]
        refine callH (hh := _) (As := [.ref g0, .int p0]) (rest := []) ⟨hx, hb, hml, hown, hts⟩ (hK_restore l D cI cJ cZ cO g0 p0 _ (by decide) (by decide) (giC g0 (a 0) (bt 0) s0 :: scC cO s0 sc :: simW cI a f cf E) (fun (_ : Unit) => giC g0 (a 0) (bt 0) s0 :: scC cO s0 sc :: simW cI a f cf E) (v_h0_thrown_X7_restore sv p0) _ rfl (by unfold v_h0_thrown_X7_restore; (repeat' split) <;> first | exact Or.inl rfl | exact Or.inr (Or.inl rfl) | exact Or.inr (Or.inr rfl)) ((wrX6_restoreN l hlt D cI cJ cZ cO g0 (bt 0) s0 a f cf E sc p0 hin hsc).to hk0 id (fun _ _ h => h) (fun _ _ h => h))) (vx_cwSW 2 hts gL_law_L_restore rfl rfl rfl (by decide +kernel) ⟨by show 7 + 1 ≤ R.frames; omega, by show 8 + (3 + 11) + 230 ≤ R.locals; omega⟩) hK hN hxs hz0 (P_perm (pm_n0 _ _ _ _ _ _ _) hP) (D_perm (pm_n0 _ _ _ _ _ _ _) hD) hS hA rfl rfl hl.1 (Nat.le_of_ble_eq_true rfl) dL_law_1385 ⟨by show cells + 1 ≤ R.cells; omega, by show slots + 6 ≤ R.slots; omega⟩ (fun u H locs hP hD hS => ?_)
        replace hP := P_perm (pm_n0 (giC g0 (a 0) (bt 0) s0) (scC cO s0 sc) (ocC cJ o ov) (simW cI a f cf E) (simW cI bt fb cb eb) S1 (mdW cI cJ cZ ma E tw f as sl se sv)).symm hP
        replace hD := D_perm (pm_n0 (giC g0 (a 0) (bt 0) s0) (scC cO s0 sc) (ocC cJ o ov) (simW cI a f cf E) (simW cI bt fb cb eb) S1 (mdW cI cJ cZ ma E tw f as sl se sv)).symm hD
        refine tl_restore (cells := cells + 1) (slots := slots + 6) C9 hL hi hR ⟨by omega, by omega⟩ e0 hP hD hS hl (fun H locs ls hP hD hS hl => ?_)
        refine W.widen (k := cells + 20) (n := slots + 400) (by omega) (by omega) ?_
        rw [ea, ee] at hP hD
        exact K _ H locs d0 ls ⟨a, bt, f, cf, E, fb, cb, eb, s0, sc, [], S1, ma, _, as, sl, se, sv, ov, rfl, rfl, hg.up (by omega), ha, hsj.up (by omega), hs1.up (by omega)⟩ hP hD hS hd0 hl
      · have hsc : sc p0.toNatClampNeg = some (x 0) := by rw [hj]; exact c1
        have hv : ¬ sv p0.toNatClampNeg = 0 := by rw [hj, c2]; decide
        have hk0 : (0 : Int32) = v_h0_thrown_X7_restore sv p0 := by unfold v_h0_thrown_X7_restore; rw [if_neg (ou_in hin), if_neg hv]
        have ea : ∀ k, k < 165 → a_h1_X7_restore f sl sv p0 k = fx k := fun k hk => by unfold a_h1_X7_restore; rw [if_neg (ou_in hin), if_neg hv, cpR_at, if_pos hk, hj]; exact c6 k hk
        have ee : v_h0_energy_X7_restore E se sv p0 = Ex := by unfold v_h0_energy_X7_restore; rw [if_neg (ou_in hin), if_neg hv, hj]; exact c7
        refine callH (hh := _) (As := [.ref g0, .int p0]) (rest := []) ⟨hx, hb, hml, hown, hts⟩ (hK_restore l D cI cJ cZ cO g0 p0 _ (by decide) (by decide) (giC g0 (a 0) (bt 0) s0 :: scC cO s0 sc :: (simW cI a f cf E ++ simW cI x fx cx Ex)) (fun (_ : Unit) => giC g0 (a 0) (bt 0) s0 :: scC cO s0 sc :: (simW cI a fx cx Ex ++ simW cI x fx cx Ex)) (v_h0_thrown_X7_restore sv p0) _ rfl (by unfold v_h0_thrown_X7_restore; (repeat' split) <;> first | exact Or.inl rfl | exact Or.inr (Or.inl rfl) | exact Or.inr (Or.inr rfl)) ((wrX6_restoreO l hlt D cI cJ cZ cO g0 (bt 0) s0 a f cf E x fx cx Ex sc p0 c4.1.co hin hsc).to hk0 id (fun _ _ h => h) (fun _ _ h => h))) (vx_cwSW 2 hts gL_law_L_restore rfl rfl rfl (by decide +kernel) ⟨by show 7 + 1 ≤ R.frames; omega, by show 8 + (3 + 11) + 230 ≤ R.locals; omega⟩) hK hN hxs hz0 (P_perm (pm_s0 _ _ _ _ _ _ _ _) hP) (D_perm (pm_s0 _ _ _ _ _ _ _ _) hD) hS hA rfl rfl hl.1 (Nat.le_of_ble_eq_true rfl) dL_law_1385 ⟨by show cells + 0 ≤ R.cells; omega, by show slots + 0 ≤ R.slots; omega⟩ (fun u H locs hP hD hS => ?_)
        replace hP := P_perm (pm_s0 (giC g0 (a 0) (bt 0) s0) (scC cO s0 sc) (ocC cJ o ov) (simW cI a fx cx Ex) (simW cI bt fb cb eb) (simW cI x fx cx Ex) S1 (mdW cI cJ cZ ma E tw f as sl se sv)).symm hP
        replace hD := D_perm (pm_s0 (giC g0 (a 0) (bt 0) s0) (scC cO s0 sc) (ocC cJ o ov) (simW cI a fx cx Ex) (simW cI bt fb cb eb) (simW cI x fx cx Ex) S1 (mdW cI cJ cZ ma E tw f as sl se sv)).symm hD
        refine tl_restore (cells := cells + 0) (slots := slots + 0) C9 hL hi hR ⟨by omega, by omega⟩ e0 hP hD hS hl (fun H locs ls hP hD hS hl => ?_)
        refine W.widen (k := cells + 20) (n := slots + 400) (by omega) (by omega) ?_
        rw [ee] at hP hD
        replace hP := P_perm (pm_at (giC g0 (a 0) (bt 0) s0) (scC cO s0 sc) (ocC cJ o ov) (ma 0, .inr (7, [.ref (ma 1), .long Ex, .ref (ma 2), .ref (ma 3), .ref (ma 4), .ref (ma 5), .int (v_h0_thrown_X7_restore sv p0)])) (ma 1, .inl (cI, 165, .inl fx)) (simW cI a fx cx Ex) (simW cI bt fb cb eb) (simW cI x fx cx Ex ++ S1) [(ma 2, .inl (cI, 165, .inl as)), (ma 3, .inl (cI, 330, .inl sl)), (ma 4, .inl (cJ, 2, .inr (.inl se))), (ma 5, .inl (cZ, 2, .inl sv))]).symm (P_congr (P_perm (pm_at (giC g0 (a 0) (bt 0) s0) (scC cO s0 sc) (ocC cJ o ov) (ma 0, .inr (7, [.ref (ma 1), .long Ex, .ref (ma 2), .ref (ma 3), .ref (ma 4), .ref (ma 5), .int (v_h0_thrown_X7_restore sv p0)])) (ma 1, .inl (cI, 165, .inl (a_h1_X7_restore f sl sv p0))) (simW cI a fx cx Ex) (simW cI bt fb cb eb) (simW cI x fx cx Ex ++ S1) [(ma 2, .inl (cI, 165, .inl as)), (ma 3, .inl (cI, 330, .inl sl)), (ma 4, .inl (cJ, 2, .inr (.inl se))), (ma 5, .inl (cZ, 2, .inl sv))]) hP) 0 rfl ea)
        replace hD := D_perm (pm_at (giC g0 (a 0) (bt 0) s0) (scC cO s0 sc) (ocC cJ o ov) (ma 0, .inr (7, [.ref (ma 1), .long Ex, .ref (ma 2), .ref (ma 3), .ref (ma 4), .ref (ma 5), .int (v_h0_thrown_X7_restore sv p0)])) (ma 1, .inl (cI, 165, .inl fx)) (simW cI a fx cx Ex) (simW cI bt fb cb eb) (simW cI x fx cx Ex ++ S1) [(ma 2, .inl (cI, 165, .inl as)), (ma 3, .inl (cI, 330, .inl sl)), (ma 4, .inl (cJ, 2, .inr (.inl se))), (ma 5, .inl (cZ, 2, .inl sv))]).symm (D_addr (by rfl) (D_perm (pm_at (giC g0 (a 0) (bt 0) s0) (scC cO s0 sc) (ocC cJ o ov) (ma 0, .inr (7, [.ref (ma 1), .long Ex, .ref (ma 2), .ref (ma 3), .ref (ma 4), .ref (ma 5), .int (v_h0_thrown_X7_restore sv p0)])) (ma 1, .inl (cI, 165, .inl (a_h1_X7_restore f sl sv p0))) (simW cI a fx cx Ex) (simW cI bt fb cb eb) (simW cI x fx cx Ex ++ S1) [(ma 2, .inl (cI, 165, .inl as)), (ma 3, .inl (cI, 330, .inl sl)), (ma 4, .inl (cJ, 2, .inr (.inl se))), (ma 5, .inl (cZ, 2, .inl sv))]) hD))
        exact K _ H locs d0 ls ⟨a, bt, fx, cx, Ex, fb, cb, eb, s0, sc, simW cI x fx cx Ex, S1, ma, _, as, sl, se, sv, ov, rfl, rfl, c4.up (by omega), c5, hsj.up (by omega), hs1.up (by omega)⟩ hP hD hS hd0 hl
    · have hsj := hs1
      rcases hs1 with ⟨c1, c2, rfl⟩ | ⟨x, fx, cx, Ex, c1, c2, rfl, c4, c5, c6, c7⟩
      · have hsc : sc p0.toNatClampNeg = none := by rw [hj]; exact c1
        have hv : sv p0.toNatClampNeg = 0 := by rw [hj]; exact c2
        have hk0 : (2 : Int32) = v_h0_thrown_X7_restore sv p0 := by unfold v_h0_thrown_X7_restore; rw [if_neg (ou_in hin), if_pos hv]
        have ea : a_h1_X7_restore f sl sv p0 = f := by unfold a_h1_X7_restore; rw [if_neg (ou_in hin), if_pos hv]
        have ee : v_h0_energy_X7_restore E se sv p0 = E := by unfold v_h0_energy_X7_restore; rw [if_neg (ou_in hin), if_pos hv]
        refine callH (hh := _) (As := [.ref g0, .int p0]) (rest := []) ⟨hx, hb, hml, hown, hts⟩ (hK_restore l D cI cJ cZ cO g0 p0 _ (by decide) (by decide) (giC g0 (a 0) (bt 0) s0 :: scC cO s0 sc :: simW cI a f cf E) (fun (_ : Unit) => giC g0 (a 0) (bt 0) s0 :: scC cO s0 sc :: simW cI a f cf E) (v_h0_thrown_X7_restore sv p0) _ rfl (by unfold v_h0_thrown_X7_restore; (repeat' split) <;> first | exact Or.inl rfl | exact Or.inr (Or.inl rfl) | exact Or.inr (Or.inr rfl)) ((wrX6_restoreN l hlt D cI cJ cZ cO g0 (bt 0) s0 a f cf E sc p0 hin hsc).to hk0 id (fun _ _ h => h) (fun _ _ h => h))) (vx_cwSW 2 hts gL_law_L_restore rfl rfl rfl (by decide +kernel) ⟨by show 7 + 1 ≤ R.frames; omega, by show 8 + (3 + 11) + 230 ≤ R.locals; omega⟩) hK hN hxs hz0 (P_perm (pm_n1 _ _ _ _ _ _ _) hP) (D_perm (pm_n1 _ _ _ _ _ _ _) hD) hS hA rfl rfl hl.1 (Nat.le_of_ble_eq_true rfl) dL_law_1385 ⟨by show cells + 1 ≤ R.cells; omega, by show slots + 6 ≤ R.slots; omega⟩ (fun u H locs hP hD hS => ?_)
        replace hP := P_perm (pm_n1 (giC g0 (a 0) (bt 0) s0) (scC cO s0 sc) (ocC cJ o ov) (simW cI a f cf E) (simW cI bt fb cb eb) S0 (mdW cI cJ cZ ma E tw f as sl se sv)).symm hP
        replace hD := D_perm (pm_n1 (giC g0 (a 0) (bt 0) s0) (scC cO s0 sc) (ocC cJ o ov) (simW cI a f cf E) (simW cI bt fb cb eb) S0 (mdW cI cJ cZ ma E tw f as sl se sv)).symm hD
        refine tl_restore (cells := cells + 1) (slots := slots + 6) C9 hL hi hR ⟨by omega, by omega⟩ e0 hP hD hS hl (fun H locs ls hP hD hS hl => ?_)
        refine W.widen (k := cells + 20) (n := slots + 400) (by omega) (by omega) ?_
        rw [ea, ee] at hP hD
        exact K _ H locs d0 ls ⟨a, bt, f, cf, E, fb, cb, eb, s0, sc, S0, [], ma, _, as, sl, se, sv, ov, rfl, rfl, hg.up (by omega), ha, hs0.up (by omega), hsj.up (by omega)⟩ hP hD hS hd0 hl
      · have hsc : sc p0.toNatClampNeg = some (x 0) := by rw [hj]; exact c1
        have hv : ¬ sv p0.toNatClampNeg = 0 := by rw [hj, c2]; decide
        have hk0 : (0 : Int32) = v_h0_thrown_X7_restore sv p0 := by unfold v_h0_thrown_X7_restore; rw [if_neg (ou_in hin), if_neg hv]
        have ea : ∀ k, k < 165 → a_h1_X7_restore f sl sv p0 k = fx k := fun k hk => by unfold a_h1_X7_restore; rw [if_neg (ou_in hin), if_neg hv, cpR_at, if_pos hk, hj]; exact c6 k hk
        have ee : v_h0_energy_X7_restore E se sv p0 = Ex := by unfold v_h0_energy_X7_restore; rw [if_neg (ou_in hin), if_neg hv, hj]; exact c7
        refine callH (hh := _) (As := [.ref g0, .int p0]) (rest := []) ⟨hx, hb, hml, hown, hts⟩ (hK_restore l D cI cJ cZ cO g0 p0 _ (by decide) (by decide) (giC g0 (a 0) (bt 0) s0 :: scC cO s0 sc :: (simW cI a f cf E ++ simW cI x fx cx Ex)) (fun (_ : Unit) => giC g0 (a 0) (bt 0) s0 :: scC cO s0 sc :: (simW cI a fx cx Ex ++ simW cI x fx cx Ex)) (v_h0_thrown_X7_restore sv p0) _ rfl (by unfold v_h0_thrown_X7_restore; (repeat' split) <;> first | exact Or.inl rfl | exact Or.inr (Or.inl rfl) | exact Or.inr (Or.inr rfl)) ((wrX6_restoreO l hlt D cI cJ cZ cO g0 (bt 0) s0 a f cf E x fx cx Ex sc p0 c4.1.co hin hsc).to hk0 id (fun _ _ h => h) (fun _ _ h => h))) (vx_cwSW 2 hts gL_law_L_restore rfl rfl rfl (by decide +kernel) ⟨by show 7 + 1 ≤ R.frames; omega, by show 8 + (3 + 11) + 230 ≤ R.locals; omega⟩) hK hN hxs hz0 (P_perm (pm_s1 _ _ _ _ _ _ _ _) hP) (D_perm (pm_s1 _ _ _ _ _ _ _ _) hD) hS hA rfl rfl hl.1 (Nat.le_of_ble_eq_true rfl) dL_law_1385 ⟨by show cells + 0 ≤ R.cells; omega, by show slots + 0 ≤ R.slots; omega⟩ (fun u H locs hP hD hS => ?_)
        replace hP := P_perm (pm_s1 (giC g0 (a 0) (bt 0) s0) (scC cO s0 sc) (ocC cJ o ov) (simW cI a fx cx Ex) (simW cI bt fb cb eb) S0 (simW cI x fx cx Ex) (mdW cI cJ cZ ma E tw f as sl se sv)).symm hP
        replace hD := D_perm (pm_s1 (giC g0 (a 0) (bt 0) s0) (scC cO s0 sc) (ocC cJ o ov) (simW cI a fx cx Ex) (simW cI bt fb cb eb) S0 (simW cI x fx cx Ex) (mdW cI cJ cZ ma E tw f as sl se sv)).symm hD
        refine tl_restore (cells := cells + 0) (slots := slots + 0) C9 hL hi hR ⟨by omega, by omega⟩ e0 hP hD hS hl (fun H locs ls hP hD hS hl => ?_)
        refine W.widen (k := cells + 20) (n := slots + 400) (by omega) (by omega) ?_
        rw [ee] at hP hD
        replace hP := P_perm (pm_at (giC g0 (a 0) (bt 0) s0) (scC cO s0 sc) (ocC cJ o ov) (ma 0, .inr (7, [.ref (ma 1), .long Ex, .ref (ma 2), .ref (ma 3), .ref (ma 4), .ref (ma 5), .int (v_h0_thrown_X7_restore sv p0)])) (ma 1, .inl (cI, 165, .inl fx)) (simW cI a fx cx Ex) (simW cI bt fb cb eb) (S0 ++ simW cI x fx cx Ex) [(ma 2, .inl (cI, 165, .inl as)), (ma 3, .inl (cI, 330, .inl sl)), (ma 4, .inl (cJ, 2, .inr (.inl se))), (ma 5, .inl (cZ, 2, .inl sv))]).symm (P_congr (P_perm (pm_at (giC g0 (a 0) (bt 0) s0) (scC cO s0 sc) (ocC cJ o ov) (ma 0, .inr (7, [.ref (ma 1), .long Ex, .ref (ma 2), .ref (ma 3), .ref (ma 4), .ref (ma 5), .int (v_h0_thrown_X7_restore sv p0)])) (ma 1, .inl (cI, 165, .inl (a_h1_X7_restore f sl sv p0))) (simW cI a fx cx Ex) (simW cI bt fb cb eb) (S0 ++ simW cI x fx cx Ex) [(ma 2, .inl (cI, 165, .inl as)), (ma 3, .inl (cI, 330, .inl sl)), (ma 4, .inl (cJ, 2, .inr (.inl se))), (ma 5, .inl (cZ, 2, .inl sv))]) hP) 0 rfl ea)
        replace hD := D_perm (pm_at (giC g0 (a 0) (bt 0) s0) (scC cO s0 sc) (ocC cJ o ov) (ma 0, .inr (7, [.ref (ma 1), .long Ex, .ref (ma 2), .ref (ma 3), .ref (ma 4), .ref (ma 5), .int (v_h0_thrown_X7_restore sv p0)])) (ma 1, .inl (cI, 165, .inl fx)) (simW cI a fx cx Ex) (simW cI bt fb cb eb) (S0 ++ simW cI x fx cx Ex) [(ma 2, .inl (cI, 165, .inl as)), (ma 3, .inl (cI, 330, .inl sl)), (ma 4, .inl (cJ, 2, .inr (.inl se))), (ma 5, .inl (cZ, 2, .inl sv))]).symm (D_addr (by rfl) (D_perm (pm_at (giC g0 (a 0) (bt 0) s0) (scC cO s0 sc) (ocC cJ o ov) (ma 0, .inr (7, [.ref (ma 1), .long Ex, .ref (ma 2), .ref (ma 3), .ref (ma 4), .ref (ma 5), .int (v_h0_thrown_X7_restore sv p0)])) (ma 1, .inl (cI, 165, .inl (a_h1_X7_restore f sl sv p0))) (simW cI a fx cx Ex) (simW cI bt fb cb eb) (S0 ++ simW cI x fx cx Ex) [(ma 2, .inl (cI, 165, .inl as)), (ma 3, .inl (cI, 330, .inl sl)), (ma 4, .inl (cJ, 2, .inr (.inl se))), (ma 5, .inl (cZ, 2, .inl sv))]) hD))
        exact K _ H locs d0 ls ⟨a, bt, fx, cx, Ex, fb, cb, eb, s0, sc, S0, simW cI x fx cx Ex, ma, _, as, sl, se, sv, ov, rfl, rfl, c4.up (by omega), c5, hs0.up (by omega), hsj.up (by omega)⟩ hP hD hS hd0 hl
  · have hk0 : (1 : Int32) = v_h0_thrown_X7_restore sv p0 := by unfold v_h0_thrown_X7_restore; rw [if_pos (ou_not hin)]
    have ea : a_h1_X7_restore f sl sv p0 = f := by unfold a_h1_X7_restore; rw [if_pos (ou_not hin)]
    have ee : v_h0_energy_X7_restore E se sv p0 = E := by unfold v_h0_energy_X7_restore; rw [if_pos (ou_not hin)]
    refine callH (hh := _) (As := [.ref g0, .int p0]) (rest := []) ⟨hx, hb, hml, hown, hts⟩ (hK_restore l D cI cJ cZ cO g0 p0 _ (by decide) (by decide) (giC g0 (a 0) (bt 0) s0 :: simW cI a f cf E) (fun (_ : Unit) => giC g0 (a 0) (bt 0) s0 :: simW cI a f cf E) (v_h0_thrown_X7_restore sv p0) _ rfl (by unfold v_h0_thrown_X7_restore; (repeat' split) <;> first | exact Or.inl rfl | exact Or.inr (Or.inl rfl) | exact Or.inr (Or.inr rfl)) (((mX6_restoreE l hlt D cI cJ cZ cO g0 p0 hin).frame (giC g0 (a 0) (bt 0) s0 :: simW cI a f cf E)).to hk0 id (fun _ _ h => h) (fun _ _ h => h))) (vx_cwSW 2 hts gL_law_L_restore rfl rfl rfl (by decide +kernel) ⟨by show 7 + 1 ≤ R.frames; omega, by show 8 + (3 + 11) + 230 ≤ R.locals; omega⟩) hK hN hxs hz0 (P_perm (pm_1 _ _ _ _ _ _ _) hP) (D_perm (pm_1 _ _ _ _ _ _ _) hD) hS hA rfl rfl hl.1 (Nat.le_of_ble_eq_true rfl) dL_law_1385 ⟨by show cells + 1 ≤ R.cells; omega, by show slots + 6 ≤ R.slots; omega⟩ (fun u H locs hP hD hS => ?_)
    replace hP := P_perm (pm_1 (giC g0 (a 0) (bt 0) s0) (scC cO s0 sc) (ocC cJ o ov) (simW cI a f cf E) (simW cI bt fb cb eb) (S0 ++ S1) (mdW cI cJ cZ ma E tw f as sl se sv)).symm hP
    replace hD := D_perm (pm_1 (giC g0 (a 0) (bt 0) s0) (scC cO s0 sc) (ocC cJ o ov) (simW cI a f cf E) (simW cI bt fb cb eb) (S0 ++ S1) (mdW cI cJ cZ ma E tw f as sl se sv)).symm hD
    refine tl_restore (cells := cells + 1) (slots := slots + 6) C9 hL hi hR ⟨by omega, by omega⟩ e0 hP hD hS hl (fun H locs ls hP hD hS hl => ?_)
    refine W.widen (k := cells + 20) (n := slots + 400) (by omega) (by omega) ?_
    rw [ea, ee] at hP hD
    exact K _ H locs d0 ls ⟨a, bt, f, cf, E, fb, cb, eb, s0, sc, S0, S1, ma, _, as, sl, se, sv, ov, rfl, rfl, hg.up (by omega), ha, hs0.up (by omega), hs1.up (by omega)⟩ hP hD hS hd0 hl
end LAW7
