section LOOP
theorem LI.up {cI cJ cZ cO : ClassId} {g0 m0 o B B' : Nat} {W1 : va_W} (h : LI cI cJ cZ cO g0 m0 o B W1) (hB : B ≤ B') : LI cI cJ cZ cO g0 m0 o B' W1 := by
  obtain ⟨a, bt, f, cf, E, fb, cb, eb, s0, sc, S0, S1, ma, tw, as, sl, se, sv, ov, h1, h2, hg, ha, hs0, hs1⟩ := h
  exact ⟨a, bt, f, cf, E, fb, cb, eb, s0, sc, S0, S1, ma, tw, as, sl, se, sv, ov, h1, h2, hg.up hB, ha, hs0.up hB, hs1.up hB⟩
theorem lp_gt {L i : Nat} (hL : L ≤ 2560) (hi : i ≤ 2560) : (Int32.ofNat L - 5 < nI i) ↔ L < i + 5 := by
  have e1 : (Int32.ofNat L).toInt = (L : Int) := nI_toInt (n := L) (by omega)
  have e2 : ((5 : Int32)).toInt = 5 := rfl
  have e3 : (Int32.ofNat L - 5).toInt = (L : Int) - 5 := by
    rw [ti_sub (by rw [e1, e2]; omega) (by rw [e1, e2]; omega), e1, e2]
  rw [lt_ti, e3, nI_toInt (show i < 2 ^ 31 by omega)]
  constructor
  · intro h; omega
  · intro h; omega

variable {p : Program} {l : Launch} {e : Env} {R : Room} {s : State} {m : MethodId} {args : Array Value} {below : List Frame} {meth : Method} {c : Code} {H : Heap} {locs : List Loc} {cells slots : Nat} {Q : State → Prop}

set_option maxHeartbeats 4000000 in
set_option maxRecDepth 100000 in
theorem lp_head {D : va_G} {cI cJ cZ cO : ClassId} {b L g0 m0 o i : Nat} {xs : Nat → Int32} {d0 : Drawn} {ls : Array Slot} (C : LC p s m args c D cI cJ cZ cO b L xs) (hL : L ≤ 2560) (hi : i ≤ 2560) (hS : va_S (fun q => s.heap.size ≤ q) s.heap H locs) (hl : lv_has ls 9 (lvL b g0 m0 o i))
    (kx : L < i + 5 → W p l e R (s.setDrawn d0) m args below meth c H locs cells slots Q (F0 m 1420 ls [])) (kb : i + 5 ≤ L → W p l e R (s.setDrawn d0) m args below meth c H locs cells slots Q (F0 m 32 ls [])) : W p l e R (s.setDrawn d0) m args below meth c H locs cells slots Q (F0 m 23 ls []) := by
  obtain ⟨hx, hb, hml, hown, hts, hK, hN, hxs, hz0, hX, hbl⟩ := C
  have hX : va_X b L xs (s.setDrawn d0) s.heap := hX
  have hbA : ¬ (fun q : Nat => s.heap.size ≤ q) b := Nat.not_le.mpr hbl
  refine lv_iload hx hb dL_law_23 (lv_at hl 4 rfl) ?_
  refine lv_aload_n hx hb dL_law_25 rfl (lv_at hl 0 rfl) ?_
  refine va_slen hx hb hX hbl hbA hS dL_law_26 ?_
  refine lv_iconst (v := 5) hx hb dL_law_27 (by decide) ?_
  refine lv_isub hx hb dL_law_28 ?_
  exact lv_icmp_gt (tgt := 1420) hx hb dL_law_29 (by decide) (fun h => kx ((lp_gt hL hi).mp h)) (fun h => kb (Nat.le_of_not_lt (fun w => h ((lp_gt hL hi).mpr w))))

set_option maxHeartbeats 4000000 in
set_option maxRecDepth 100000 in
theorem lp_body {D : va_G} {cI cJ cZ cO : ClassId} {b L g0 m0 o i B : Nat} {xs : Nat → Int32} {W1 : va_W} {d0 : Drawn} {ls : Array Slot} (hlt : l.stackTraces = false) (C : LC p s m args c D cI cJ cZ cO b L xs) (hL : L ≤ 2560) (hi : i + 5 ≤ L) (hR : 10 ≤ R.frames ∧ 376 ≤ R.locals) (hc : cells + 20 ≤ R.cells ∧ slots + 400 ≤ R.slots) (hB : B + 2001 < 2147483647)
    (hI : LI cI cJ cZ cO g0 m0 o B W1) (hP : va_P D vwCl W1 H) (hD : va_D (fun q => s.heap.size ≤ q) W1) (hS : va_S (fun q => s.heap.size ≤ q) s.heap H locs) (hd0 : s.drawn.sameBut d0 lw_cs) (hl : lv_has ls 9 (lvL b g0 m0 o i))
    (K : KN p l e R s m args below meth c D cI cJ cZ cO Q b g0 m0 o i B cells slots) : W p l e R (s.setDrawn d0) m args below meth c H locs cells slots Q (F0 m 32 ls []) := by
  have C9 := C
  obtain ⟨hx, hb, hml, hown, hts, hK, hN, hxs, hz0, hX, hbl⟩ := C
  have hX : va_X b L xs (s.setDrawn d0) s.heap := hX
  have hbA : ¬ (fun q : Nat => s.heap.size ≤ q) b := Nat.not_le.mpr hbl
  refine lv_aload_n hx hb dL_law_32 rfl (lv_at hl 0 rfl) ?_
  refine lv_iload hx hb dL_law_33 (lv_at hl 4 rfl) ?_
  refine r_scr hx hb hX hbl hbA hS (i := i) (by omega) hL rfl dL_law_35 ?_
  refine lv_bipush (v := 31) hx hb dL_law_36 (by decide) ?_
  refine lv_iand hx hb dL_law_38 ?_
  obtain ⟨j, hj, ej⟩ := pk_andE (xs i) (m := 31) 5 (by decide)
  have hj : j < 32 := hj
  rw [ej]
  by_cases hout : 26 < j
  · refine lv_tableOut (tgt := 1414) hx hb dL_law_39 (Or.inr ?_) (by decide) ?_
    · rw [nI_toInt (show j < 2 ^ 31 by omega)]
      omega
    · refine W.widen (k := cells + 20) (n := slots + 400) (by omega) (by omega) ?_
      exact K _ H locs d0 ls (hI.up (by omega)) hP hD hS hd0 hl
  · rcases (show j = 0 ∨ j = 1 ∨ j = 2 ∨ j = 3 ∨ j = 4 ∨ j = 5 ∨ j = 6 ∨ j = 7 ∨ j = 8 ∨ j = 9 ∨ j = 10 ∨ j = 11 ∨ j = 12 ∨ j = 13 ∨ j = 14 ∨ j = 15 ∨ j = 16 ∨ j = 17 ∨ j = 18 ∨ j = 19 ∨ j = 20 ∨ j = 21 ∨ j = 22 ∨ j = 23 ∨ j = 24 ∨ j = 25 ∨ j = 26 by omega) with rfl | rfl | rfl | rfl | rfl | rfl | rfl | rfl | rfl | rfl | rfl | rfl | rfl | rfl | rfl | rfl | rfl | rfl | rfl | rfl | rfl | rfl | rfl | rfl | rfl | rfl | rfl
    · exact lv_tableIn (off := 121) (tgt := 160) hx hb dL_law_39 (by decide) (by decide) rfl (by decide) (kc_setGrid hlt C9 hL hi hR hc hI hP hD hS hd0 hl K)
    · exact lv_tableIn (off := 169) (tgt := 208) hx hb dL_law_39 (by decide) (by decide) rfl (by decide) (kc_jump hlt C9 hL hi hR hc hI hP hD hS hd0 hl K)
    · exact lv_tableIn (off := 225) (tgt := 264) hx hb dL_law_39 (by decide) (by decide) rfl (by decide) (kc_connect C9 hL hi hR hc hI hP hD hS hd0 hl K)
    · exact lv_tableIn (off := 266) (tgt := 305) hx hb dL_law_39 (by decide) (by decide) rfl (by decide) (kc_setLoad hlt C9 hL hi hR hc hI hP hD hS hd0 hl K)
    · exact lv_tableIn (off := 326) (tgt := 365) hx hb dL_law_39 (by decide) (by decide) rfl (by decide) (kc_setLoop hlt C9 hL hi hR hc hI hP hD hS hd0 hl K)
    · exact lv_tableIn (off := 374) (tgt := 413) hx hb dL_law_39 (by decide) (by decide) rfl (by decide) (kc_setLock hlt C9 hL hi hR hc hI hP hD hS hd0 hl K)
    · exact lv_tableIn (off := 422) (tgt := 461) hx hb dL_law_39 (by decide) (by decide) rfl (by decide) (kc_setWindow hlt C9 hL hi hR hc hI hP hD hS hd0 hl K)
    · exact lv_tableIn (off := 494) (tgt := 533) hx hb dL_law_39 (by decide) (by decide) rfl (by decide) (kc_setPower hlt C9 hL hi hR hc hI hP hD hS hd0 hl K)
    · exact lv_tableIn (off := 554) (tgt := 593) hx hb dL_law_39 (by decide) (by decide) rfl (by decide) (kc_setDrift hlt C9 hL hi hR hc hI hP hD hS hd0 hl K)
    · exact lv_tableIn (off := 602) (tgt := 641) hx hb dL_law_39 (by decide) (by decide) rfl (by decide) (kc_addRule hlt C9 hL hi hR hc hI hP hD hS hd0 hl K)
    · exact lv_tableIn (off := 682) (tgt := 721) hx hb dL_law_39 (by decide) (by decide) rfl (by decide) (kc_clearRules C9 hL hi hR hc hI hP hD hS hd0 hl K)
    · exact lv_tableIn (off := 695) (tgt := 734) hx hb dL_law_39 (by decide) (by decide) rfl (by decide) (kc_start C9 hL hi hR hc hI hP hD hS hd0 hl K)
    · exact lv_tableIn (off := 708) (tgt := 747) hx hb dL_law_39 (by decide) (by decide) rfl (by decide) (kc_stop C9 hL hi hR hc hI hP hD hS hd0 hl (by omega) K)
    · exact lv_tableIn (off := 721) (tgt := 760) hx hb dL_law_39 (by decide) (by decide) rfl (by decide) (kc_advance hlt C9 hL hi hR hc hI hP hD hS hd0 hl (by omega) K)
    · exact lv_tableIn (off := 777) (tgt := 816) hx hb dL_law_39 (by decide) (by decide) rfl (by decide) (kc_state C9 hL hi hR hc hI hP hD hS hd0 hl K)
    · exact lv_tableIn (off := 790) (tgt := 829) hx hb dL_law_39 (by decide) (by decide) rfl (by decide) (kc_isLocked C9 hL hi hR hc hI hP hD hS hd0 hl K)
    · exact lv_tableIn (off := 803) (tgt := 842) hx hb dL_law_39 (by decide) (by decide) rfl (by decide) (kc_measure hlt C9 hL hi hR hc hI hP hD hS hd0 hl K)
    · exact lv_tableIn (off := 859) (tgt := 898) hx hb dL_law_39 (by decide) (by decide) rfl (by decide) (kc_violations hlt C9 hL hi hR hc hI hP hD hS hd0 hl (by omega) K)
    · exact lv_tableIn (off := 915) (tgt := 954) hx hb dL_law_39 (by decide) (by decide) rfl (by decide) (kc_energy C9 hL hi hR hc hI hP hD hS hd0 hl K)
    · exact lv_tableIn (off := 929) (tgt := 968) hx hb dL_law_39 (by decide) (by decide) rfl (by decide) (kc_availability C9 hL hi hR hc hI hP hD hS hd0 hl (by omega) K)
    · exact lv_tableIn (off := 970) (tgt := 1009) hx hb dL_law_39 (by decide) (by decide) rfl (by decide) (kc_events C9 hL hi hR hc hI hP hD hS hd0 hl K)
    · exact lv_tableIn (off := 983) (tgt := 1022) hx hb dL_law_39 (by decide) (by decide) rfl (by decide) (kc_event hlt C9 hL hi hR hc hI hP hD hS hd0 hl (by omega) K)
    · exact lv_tableIn (off := 1051) (tgt := 1090) hx hb dL_law_39 (by decide) (by decide) rfl (by decide) (kc_islandTime hlt C9 hL hi hR hc hI hP hD hS hd0 hl (by omega) K)
    · exact lv_tableIn (off := 1143) (tgt := 1182) hx hb dL_law_39 (by decide) (by decide) rfl (by decide) (kc_undetected hlt C9 hL hi hR hc hI hP hD hS hd0 hl (by omega) K)
    · exact lv_tableIn (off := 1235) (tgt := 1274) hx hb dL_law_39 (by decide) (by decide) rfl (by decide) (kc_relockTime hlt C9 hL hi hR hc hI hP hD hS hd0 hl (by omega) K)
    · exact lv_tableIn (off := 1303) (tgt := 1342) hx hb dL_law_39 (by decide) (by decide) rfl (by decide) (kc_save hlt C9 hL hi hR hc hI hP hD hS hd0 hl K)
    · exact lv_tableIn (off := 1339) (tgt := 1378) hx hb dL_law_39 (by decide) (by decide) rfl (by decide) (kc_restore hlt C9 hL hi hR hc hI hP hD hS hd0 hl K)

set_option maxHeartbeats 4000000 in
set_option maxRecDepth 100000 in
theorem lp_all {D : va_G} {cI cJ cZ cO : ClassId} {b L g0 m0 o C0 S0 : Nat} {xs : Nat → Int32} (hlt : l.stackTraces = false) (C : LC p s m args c D cI cJ cZ cO b L xs) (hL : L ≤ 2560) (hR : 10 ≤ R.frames ∧ 376 ≤ R.locals) (hc : C0 + 51400 ≤ R.cells ∧ S0 + 1028000 ≤ R.slots)
    (KE : ∀ (H : Heap) (locs : List Loc) (d0 : Drawn) (ls : Array Slot), va_S (fun q => s.heap.size ≤ q) s.heap H locs → s.drawn.sameBut d0 lw_cs → W p l e R (s.setDrawn d0) m args below meth c H locs (C0 + 51400) (S0 + 1028000) Q (F0 m 1420 ls [])) :
    ∀ (n i : Nat) (W1 : va_W) (H : Heap) (locs : List Loc) (d0 : Drawn) (ls : Array Slot), L < i + 5 * n + 5 → i ≤ 2560 → LI cI cJ cZ cO g0 m0 o (2001 * i) W1 → va_P D vwCl W1 H → va_D (fun q => s.heap.size ≤ q) W1 → va_S (fun q => s.heap.size ≤ q) s.heap H locs → s.drawn.sameBut d0 lw_cs → lv_has ls 9 (lvL b g0 m0 o i) →
      W p l e R (s.setDrawn d0) m args below meth c H locs (C0 + 20 * i) (S0 + 400 * i) Q (F0 m 23 ls []) := by
  intro n
  induction n with
  | zero =>
    intro i W1 H locs d0 ls hn hi hI hP hD hS hd0 hl
    refine lp_head C hL hi hS hl (fun _ => ?_) (fun h5 => absurd hn (by omega))
    refine W.widen (k := C0 + 51400) (n := S0 + 1028000) (by omega) (by omega) ?_
    exact KE H locs d0 ls hS hd0
  | succ n ih =>
    intro i W1 H locs d0 ls hn hi hI hP hD hS hd0 hl
    refine lp_head C hL hi hS hl (fun _ => ?_) (fun h5 => ?_)
    · refine W.widen (k := C0 + 51400) (n := S0 + 1028000) (by omega) (by omega) ?_
      exact KE H locs d0 ls hS hd0
    · refine lp_body hlt C hL h5 hR ⟨by omega, by omega⟩ (by omega) hI hP hD hS hd0 hl (fun W1 H locs d0 ls hI hP hD hS hd0 hl => ?_)
      obtain ⟨hx, hb, -⟩ := id C
      refine lv_iinc (v := nI (i + 5)) (lv' := [(4, .int (nI (i + 5))), (0, .ref b), (1, .ref g0), (2, .ref m0), (3, .ref o)]) hx hb dL_law_1414 hl (k := 4) rfl (nI_add i 5) (by decide) rfl (fun ls hl => ?_)
      refine lv_goto (tgt := 23) hx hb dL_law_1417 (by decide) ?_
      refine W.widen (k := C0 + 20 * (i + 5)) (n := S0 + 400 * (i + 5)) (by omega) (by omega) ?_
      exact ih (i + 5) W1 H locs d0 ls (by omega) (by omega) (hI.up (by omega)) hP hD hS hd0 (lv_sub hl [1, 2, 3, 4, 0] rfl)
end LOOP
