def r_J9_floorMod_7cf53 (p0 : Int32) (p1 : Int32) : Int32 := (if 0 ≤ (p0 ^^^ p1) then (p0 - p0 / p1 * p1) else (if (p0 - p0 / p1 * p1) = 0 then (p0 - p0 / p1 * p1) else ((p0 - p0 / p1 * p1) + p1) : Int32) : Int32)
set_option maxHeartbeats 4000000 in
set_option maxRecDepth 100000 in
theorem mJ9_floorMod_7cf53 (l : Launch) (D : va_G) (cI cJ cZ cO : ClassId) (p0 : Int32) (p1 : Int32) (hy : ¬ p1 = 0) : MI l yJ9_floorMod_7cf53 wsJ9_floorMod_7cf53 ({ frames := 0, cells := 0, slots := 0, locals := 0 } : Room) D (tysK cI cJ cZ cO) [.int p0, .int p1] [] (r_J9_floorMod_7cf53 p0 p1) [] := by
  refine MI.ofF (cc := cJ9_floorMod_7cf53) (maxL := 3) (ret := .int) (by decide +kernel) rfl (Nat.le_of_ble_eq_true rfl) rfl ?_
  intro p e s m args below meth c A Q ls H locs B hS hP hD hl hret
  obtain ⟨hx, hb, hml, hown, hts, hK, hN, hA, hlocks⟩ := B
  have hl : lv_has ls 3 [(0, .int p0), (1, .int p1)] := hl
  refine lv_iload_n hx hb dJ9_floorMod_7cf53_0 rfl (lv_at hl 0 rfl) ?_
  refine lv_iload_n hx hb dJ9_floorMod_7cf53_1 rfl (lv_at hl 1 rfl) ?_
  refine lv_irem hx hb dJ9_floorMod_7cf53_2 hy ?_
  refine lv_istore_n (lv' := [(2, .int (p0 - p0 / p1 * p1)), (0, .int p0), (1, .int p1)]) hx hb dJ9_floorMod_7cf53_3 rfl hl (by decide) rfl (fun ls hl => ?_)
  refine lv_iload_n hx hb dJ9_floorMod_7cf53_4 rfl (lv_at hl 1 rfl) ?_
  refine lv_iload_n hx hb dJ9_floorMod_7cf53_5 rfl (lv_at hl 2 rfl) ?_
  refine lv_ixor hx hb dJ9_floorMod_7cf53_6 ?_
  refine lv_if_ge (tgt := 18) hx hb dJ9_floorMod_7cf53_7 (by decide) (fun c2 => ?_) (fun c2 => ?_)
  · refine lv_iload_n hx hb dJ9_floorMod_7cf53_18 rfl (lv_at hl 0 rfl) ?_
    exact hret _ _ _ _ _ _ _ _ (by first | with_reducible rfl | (simp only [r_J9_floorMod_7cf53, if_pos c2]; done) | rfl) (by first | with_reducible rfl | (simp only [r_J9_floorMod_7cf53, if_pos c2]; done) | rfl) hP hD hS (Nat.le_of_ble_eq_true rfl) (Nat.le_of_ble_eq_true rfl) dJ9_floorMod_7cf53_19
  · refine lv_iload_n hx hb dJ9_floorMod_7cf53_10 rfl (lv_at hl 0 rfl) ?_
    refine lv_if_eq (tgt := 18) hx hb dJ9_floorMod_7cf53_11 (by decide) (fun c4 => ?_) (fun c4 => ?_)
    · refine lv_iload_n hx hb dJ9_floorMod_7cf53_18 rfl (lv_at hl 0 rfl) ?_
      exact hret _ _ _ _ _ _ _ _ (by first | with_reducible rfl | (simp only [r_J9_floorMod_7cf53, if_neg c2, if_pos c4]; done) | rfl) (by first | with_reducible rfl | (simp only [r_J9_floorMod_7cf53, if_neg c2, if_pos c4]; done) | rfl) hP hD hS (Nat.le_of_ble_eq_true rfl) (Nat.le_of_ble_eq_true rfl) dJ9_floorMod_7cf53_19
    · refine lv_iload_n hx hb dJ9_floorMod_7cf53_14 rfl (lv_at hl 0 rfl) ?_
      refine lv_iload_n hx hb dJ9_floorMod_7cf53_15 rfl (lv_at hl 2 rfl) ?_
      refine lv_iadd hx hb dJ9_floorMod_7cf53_16 ?_
      exact hret _ _ _ _ _ _ _ _ (by first | with_reducible rfl | (simp only [r_J9_floorMod_7cf53, if_neg c2, if_neg c4]; done) | rfl) (by first | with_reducible rfl | (simp only [r_J9_floorMod_7cf53, if_neg c2, if_neg c4]; done) | rfl) hP hD hS (Nat.le_of_ble_eq_true rfl) (Nat.le_of_ble_eq_true rfl) dJ9_floorMod_7cf53_17

def r_X6_outside (p0 : Int32) (p1 : Int32) (p2 : Int32) : Int32 := (if p0 < p1 then 1 else (if p0 ≤ p2 then 0 else 1 : Int32) : Int32)
set_option maxHeartbeats 4000000 in
set_option maxRecDepth 100000 in
theorem mX6_outside (l : Launch) (D : va_G) (cI cJ cZ cO : ClassId) (p0 : Int32) (p1 : Int32) (p2 : Int32) : MI l yX6_outside wsX6_outside ({ frames := 0, cells := 0, slots := 0, locals := 0 } : Room) D (tysK cI cJ cZ cO) [.int p0, .int p1, .int p2] [] (r_X6_outside p0 p1 p2) [] := by
  refine MI.of (cc := cX6_outside) (maxL := 3) (ret := .boolean) (by decide) rfl (Nat.le_of_ble_eq_true rfl) (by simp only [r_X6_outside]; first | rfl | (repeat' split) <;> rfl) ?_
  intro p e s m args below meth c A Q ls H locs B hS hP hD hl hret
  obtain ⟨hx, hb, hml, hown, hts, hK, hN, hA, hlocks⟩ := B
  have hl : lv_has ls 3 [(0, .int p0), (1, .int p1), (2, .int p2)] := hl
  refine lv_iload_n hx hb dX6_outside_0 rfl (lv_at hl 0 rfl) ?_
  refine lv_iload_n hx hb dX6_outside_1 rfl (lv_at hl 1 rfl) ?_
  have K15 : ∀ (y3 : Int32) (H : Heap) (locs : List Loc) (ls : Array Slot), y3 = (if p0 < p1 then 1 else (if p0 ≤ p2 then 0 else 1 : Int32) : Int32) → va_P D vwCl [] H → va_D A [] → va_S A s.heap H locs → lv_has ls 3 [(0, .int p0), (1, .int p1), (2, .int p2)] → W p l e ({ frames := 0, cells := 0, slots := 0, locals := 0 } : Room) s m args below meth c H locs 0 0 Q (F0 m 15 ls [.int y3]) := by
    intro y3 H locs ls ey3 hP hD hS hl
    exact hret _ _ _ _ _ _ _ _ (by subst ey3; first | with_reducible rfl | (simp only [r_X6_outside]; done) | rfl) (by subst ey3; first | with_reducible rfl | (simp only [r_X6_outside]; done) | rfl) hP hD hS (Nat.le_of_ble_eq_true rfl) (Nat.le_of_ble_eq_true rfl) dX6_outside_15
  refine lv_icmp_lt (tgt := 10) hx hb dX6_outside_2 (by decide) (fun c2 => ?_) (fun c2 => ?_)
  · refine lv_iconst (v := 1) hx hb dX6_outside_10 (by decide) ?_
    refine lv_goto (tgt := 15) hx hb dX6_outside_11 (by decide) ?_
    exact K15 _ _ _ _ (by first | with_reducible rfl | (simp only [if_pos c2]; done) | rfl) (hP.sub [] rfl) (hD.sub [] (by decide) rfl) hS (lv_sub hl [0, 1, 2] rfl)
  · refine lv_iload_n hx hb dX6_outside_5 rfl (lv_at hl 0 rfl) ?_
    refine lv_iload_n hx hb dX6_outside_6 rfl (lv_at hl 2 rfl) ?_
    refine lv_icmp_le (tgt := 14) hx hb dX6_outside_7 (by decide) (fun c5 => ?_) (fun c5 => ?_)
    · refine lv_iconst (v := 0) hx hb dX6_outside_14 (by decide) ?_
      exact K15 _ _ _ _ (by first | with_reducible rfl | (simp only [if_neg c2, if_pos c5]; done) | rfl) (hP.sub [] rfl) (hD.sub [] (by decide) rfl) hS (lv_sub hl [0, 1, 2] rfl)
    · refine lv_iconst (v := 1) hx hb dX6_outside_10 (by decide) ?_
      refine lv_goto (tgt := 15) hx hb dX6_outside_11 (by decide) ?_
      exact K15 _ _ _ _ (by first | with_reducible rfl | (simp only [if_neg c2, if_neg c5]; done) | rfl) (hP.sub [] rfl) (hD.sub [] (by decide) rfl) hS (lv_sub hl [0, 1, 2] rfl)

def r_X6_limitedFrequency (p0 : Int32) : Int32 := (if 40000 < (if 70000 < p0 then 70000 else p0 : Int32) then (if 70000 < p0 then 70000 else p0 : Int32) else 40000 : Int32)
set_option maxHeartbeats 4000000 in
set_option maxRecDepth 100000 in
theorem mX6_limitedFrequency (l : Launch) (D : va_G) (cI cJ cZ cO : ClassId) (p0 : Int32) : MI l yX6_limitedFrequency wsX6_limitedFrequency ({ frames := 1, cells := 0, slots := 0, locals := 21 } : Room) D (tysK cI cJ cZ cO) [.int p0] [] (r_X6_limitedFrequency p0) [] := by
  refine MI.of (cc := cX6_limitedFrequency) (maxL := 1) (ret := .int) (by decide) rfl (Nat.le_of_ble_eq_true rfl) rfl ?_
  intro p e s m args below meth c A Q ls H locs B hS hP hD hl hret
  obtain ⟨hx, hb, hml, hown, hts, hK, hN, hA, hlocks⟩ := B
  have hl : lv_has ls 1 [(0, .int p0)] := hl
  refine lv_ldc hx hb hown (hts (.constant RX6 96 (40000)) (by decide +kernel)) dX6_limitedFrequency_0 ?_
  refine lv_iload_n hx hb dX6_limitedFrequency_2 rfl (lv_at hl 0 rfl) ?_
  refine lv_ldc hx hb hown (hts (.constant RX6 97 (70000)) (by decide +kernel)) dX6_limitedFrequency_3 ?_
  refine va_mmin hx hb (hml.trans hl.1.symm) hown (hts (.methodLink RX6 253 Lib.Math.min.name) (by decide +kernel)) (hts (.static Lib.Math.min.name) (by decide +kernel)) (hts (.initialized "java/lang/Math") (by decide +kernel)) (hts (.code Lib.Math.min.name Lib.Math.min.code 2 (some .int)) (by decide +kernel)) (Nat.le_of_ble_eq_true rfl) (Nat.le_of_ble_eq_true rfl) (Nat.le_of_ble_eq_true rfl) (Nat.le_of_ble_eq_true rfl) dX6_limitedFrequency_5 ?_
  refine lv_topi (fun x1 ex1 => ?_)
  refine va_mmax hx hb (hml.trans hl.1.symm) hown (hts (.methodLink RX6 259 Lib.Math.max.name) (by decide +kernel)) (hts (.static Lib.Math.max.name) (by decide +kernel)) (hts (.initialized "java/lang/Math") (by decide +kernel)) (hts (.code Lib.Math.max.name Lib.Math.max.code 2 (some .int)) (by decide +kernel)) (Nat.le_of_ble_eq_true rfl) (Nat.le_of_ble_eq_true rfl) (Nat.le_of_ble_eq_true rfl) (Nat.le_of_ble_eq_true rfl) dX6_limitedFrequency_8 ?_
  refine lv_topi (fun x2 ex2 => ?_)
  exact hret _ _ _ _ _ _ _ _ (by subst ex1; subst ex2; first | with_reducible rfl | (simp only [r_X6_limitedFrequency]; done) | rfl) (by subst ex1; subst ex2; first | with_reducible rfl | (simp only [r_X6_limitedFrequency]; done) | rfl) hP hD hS (Nat.le_of_ble_eq_true rfl) (Nat.le_of_ble_eq_true rfl) dX6_limitedFrequency_11

set_option maxHeartbeats 4000000 in
set_option maxRecDepth 100000 in
theorem mX1_becomeIsland (l : Launch) (D : va_G) (cI cJ cZ cO : ClassId) (h0 : Nat) (vo : Int32) (fr : Int32) (an : Int32) (co : Int32) (gv : Int32) (gf : Int32) (ld : Int32) (re : Int32) (qu : Int32) (p0 : Int32) (p1 : Int32) (p2 : Int32) : MV l yX1_becomeIsland wsX1_becomeIsland ({ frames := 0, cells := 0, slots := 0, locals := 0 } : Room) D (tysK cI cJ cZ cO) [.ref h0, .int p0, .int p1, .int p2] [(h0, .inr (1, [.int vo, .int fr, .int an, .int co, .int gv, .int gf, .int ld, .int re, .int qu]))] (fun (_ : Unit) => [(h0, .inr (1, [.int vo, .int fr, .int an, .int co, .int gv, .int gf, .int p0, .int p1, .int p2]))]) := by
  refine MV.of (cc := cX1_becomeIsland) (maxL := 4) (by decide) rfl (Nat.le_of_ble_eq_true rfl) ?_
  intro p e s m args below meth c A Q ls H locs B hin hS hP hD hl hret
  obtain ⟨hx, hb, hml, hown, hts, hK, hN, hA, hlocks⟩ := B
  have hi1 : ∀ w ∈ u_ws RX1 TX1 9, w ∈ wsX1_becomeIsland := by decide +kernel
  have hl : lv_has ls 4 [(0, .ref h0), (1, .int p0), (2, .int p1), (3, .int p2)] := hl
  refine lv_aload_n hx hb dX1_becomeIsland_0 rfl (lv_at hl 0 rfl) ?_
  refine lv_iload_n hx hb dX1_becomeIsland_1 rfl (lv_at hl 1 rfl) ?_
  refine va_put (D := D) (ci := 1) (v := .int p0) (ty := .int) (C := RX1) (T := TX1) (N := 9) hx hb hts hi1 tyX1 tyX1_ok nmX1 hown hK hP hD hS 0 rfl rfl 6 (by decide) (hts (.fieldLink RX1 32 "GridInverter$Line" "load" "I") (by decide +kernel)) (fun _ h9 => h9) rfl (by decide +kernel) rfl rfl (Nat.le_of_ble_eq_true rfl) dX1_becomeIsland_2 (fun H locs hP hD hS => ?_)
  have hP : va_P D vwCl [(h0, .inr (1, [.int vo, .int fr, .int an, .int co, .int gv, .int gf, .int p0, .int re, .int qu]))] H := hP
  have hD : va_D A [(h0, .inr (1, [.int vo, .int fr, .int an, .int co, .int gv, .int gf, .int p0, .int re, .int qu]))] := hD
  refine lv_aload_n hx hb dX1_becomeIsland_5 rfl (lv_at hl 0 rfl) ?_
  refine lv_iload_n hx hb dX1_becomeIsland_6 rfl (lv_at hl 2 rfl) ?_
  refine va_put (D := D) (ci := 1) (v := .int p1) (ty := .int) (C := RX1) (T := TX1) (N := 9) hx hb hts hi1 tyX1 tyX1_ok nmX1 hown hK hP hD hS 0 rfl rfl 7 (by decide) (hts (.fieldLink RX1 35 "GridInverter$Line" "resonance" "I") (by decide +kernel)) (fun _ h9 => h9) rfl (by decide +kernel) rfl rfl (Nat.le_of_ble_eq_true rfl) dX1_becomeIsland_7 (fun H locs hP hD hS => ?_)
  have hP : va_P D vwCl [(h0, .inr (1, [.int vo, .int fr, .int an, .int co, .int gv, .int gf, .int p0, .int p1, .int qu]))] H := hP
  have hD : va_D A [(h0, .inr (1, [.int vo, .int fr, .int an, .int co, .int gv, .int gf, .int p0, .int p1, .int qu]))] := hD
  refine lv_aload_n hx hb dX1_becomeIsland_10 rfl (lv_at hl 0 rfl) ?_
  refine lv_iload_n hx hb dX1_becomeIsland_11 rfl (lv_at hl 3 rfl) ?_
  refine va_put (D := D) (ci := 1) (v := .int p2) (ty := .int) (C := RX1) (T := TX1) (N := 9) hx hb hts hi1 tyX1 tyX1_ok nmX1 hown hK hP hD hS 0 rfl rfl 8 (by decide) (hts (.fieldLink RX1 38 "GridInverter$Line" "quality" "I") (by decide +kernel)) (fun _ h9 => h9) rfl (by decide +kernel) rfl rfl (Nat.le_of_ble_eq_true rfl) dX1_becomeIsland_12 (fun H locs hP hD hS => ?_)
  have hP : va_P D vwCl [(h0, .inr (1, [.int vo, .int fr, .int an, .int co, .int gv, .int gf, .int p0, .int p1, .int p2]))] H := hP
  have hD : va_D A [(h0, .inr (1, [.int vo, .int fr, .int an, .int co, .int gv, .int gf, .int p0, .int p1, .int p2]))] := hD
  exact hret () _ _ _ _ _ _ _ (by first | with_reducible rfl | (simp only []; done) | rfl) hP hD hS (Nat.le_of_ble_eq_true rfl) (Nat.le_of_ble_eq_true rfl) dX1_becomeIsland_15

def v_h0_angle_X1_turn (an : Int32) (p0 : Int32) : Int32 := (r_J9_floorMod_7cf53 (an + p0) 1000000)
set_option maxHeartbeats 4000000 in
set_option maxRecDepth 100000 in
theorem mX1_turn (l : Launch) (D : va_G) (cI cJ cZ cO : ClassId) (h0 : Nat) (vo : Int32) (fr : Int32) (an : Int32) (co : Int32) (gv : Int32) (gf : Int32) (ld : Int32) (re : Int32) (qu : Int32) (p0 : Int32) : MV l yX1_turn wsX1_turn ({ frames := 1, cells := 0, slots := 0, locals := 22 } : Room) D (tysK cI cJ cZ cO) [.ref h0, .int p0] [(h0, .inr (1, [.int vo, .int fr, .int an, .int co, .int gv, .int gf, .int ld, .int re, .int qu]))] (fun (_ : Unit) => [(h0, .inr (1, [.int vo, .int fr, .int (v_h0_angle_X1_turn an p0), .int co, .int gv, .int gf, .int ld, .int re, .int qu]))]) := by
  refine MV.of (cc := cX1_turn) (maxL := 2) (by decide) rfl (Nat.le_of_ble_eq_true rfl) ?_
  intro p e s m args below meth c A Q ls H locs B hin hS hP hD hl hret
  obtain ⟨hx, hb, hml, hown, hts, hK, hN, hA, hlocks⟩ := B
  have hi1 : ∀ w ∈ u_ws RX1 TX1 9, w ∈ wsX1_turn := by decide +kernel
  have hl : lv_has ls 2 [(0, .ref h0), (1, .int p0)] := hl
  refine lv_aload_n hx hb dX1_turn_0 rfl (lv_at hl 0 rfl) ?_
  refine lv_aload_n hx hb dX1_turn_1 rfl (lv_at hl 0 rfl) ?_
  refine va_get (D := D) (ci := 1) (v := .int an) (C := RX1) (T := TX1) (N := 9) hx hb hts hi1 hown hK hP 0 rfl rfl 2 (by decide) (hts (.fieldLink RX1 19 "GridInverter$Line" "angle" "I") (by decide +kernel)) (fun _ h9 => h9) rfl dX1_turn_2 ?_
  refine lv_iload_n hx hb dX1_turn_5 rfl (lv_at hl 1 rfl) ?_
  refine lv_iadd hx hb dX1_turn_6 ?_
  refine lv_ldc hx hb hown (hts (.constant RX1 41 (1000000)) (by decide +kernel)) dX1_turn_7 ?_
  refine call_i (wr := [(h0, .inr (1, [.int vo, .int fr, .int an, .int co, .int gv, .int gf, .int ld, .int re, .int qu]))]) (k := 0) (n := 0) (run_S (As := [.int (an + p0), .int 1000000]) (rest := [.ref h0]) ⟨hx, hb, hml, hown, hts⟩ (mJ9_floorMod_7cf53 l D cI cJ cZ cO (an + p0) 1000000 (by decide) H.size) (va_cwS 2 hts gX1_turn_J9_floorMod_7cf53 rfl rfl rfl (by decide +kernel) ⟨Nat.le_of_ble_eq_true rfl, Nat.le_of_ble_eq_true rfl⟩) hK hN hP hD [] (by decide) rfl rfl rfl hl.1 (Nat.le_of_ble_eq_true rfl) dX1_turn_9 ⟨Nat.le_of_ble_eq_true rfl, Nat.le_of_ble_eq_true rfl⟩) hP hD hS hA [] [0] rfl rfl (by decide) (by decide) (Nat.le_of_ble_eq_true rfl) (Nat.le_of_ble_eq_true rfl) (fun H locs hP hD hS => ?_)
  have hP : va_P D vwCl [(h0, .inr (1, [.int vo, .int fr, .int an, .int co, .int gv, .int gf, .int ld, .int re, .int qu]))] H := hP
  have hD : va_D A [(h0, .inr (1, [.int vo, .int fr, .int an, .int co, .int gv, .int gf, .int ld, .int re, .int qu]))] := hD
  refine lv_topi (fun x1 ex1 => ?_)
  refine va_put (D := D) (ci := 1) (v := .int x1) (ty := .int) (C := RX1) (T := TX1) (N := 9) hx hb hts hi1 tyX1 tyX1_ok nmX1 hown hK hP hD hS 0 rfl rfl 2 (by decide) (hts (.fieldLink RX1 19 "GridInverter$Line" "angle" "I") (by decide +kernel)) (fun _ h9 => h9) rfl (by decide +kernel) rfl rfl (Nat.le_of_ble_eq_true rfl) dX1_turn_12 (fun H locs hP hD hS => ?_)
  have hP : va_P D vwCl [(h0, .inr (1, [.int vo, .int fr, .int x1, .int co, .int gv, .int gf, .int ld, .int re, .int qu]))] H := hP
  have hD : va_D A [(h0, .inr (1, [.int vo, .int fr, .int x1, .int co, .int gv, .int gf, .int ld, .int re, .int qu]))] := hD
  exact hret () _ _ _ _ _ _ _ (by subst ex1; first | with_reducible rfl | (simp only [v_h0_angle_X1_turn]; done) | rfl) hP hD hS (Nat.le_of_ble_eq_true rfl) (Nat.le_of_ble_eq_true rfl) dX1_turn_15

def r_X1_islandVoltage (ld : Int32) (p0 : Int32) : Int32 := (if ld ≤ 0 then 400 else (if 400 < ((230 * p0) / ld) then 400 else ((230 * p0) / ld) : Int32) : Int32)
set_option maxHeartbeats 4000000 in
set_option maxRecDepth 100000 in
theorem mX1_islandVoltage (l : Launch) (D : va_G) (cI cJ cZ cO : ClassId) (h0 : Nat) (vo : Int32) (fr : Int32) (an : Int32) (co : Int32) (gv : Int32) (gf : Int32) (ld : Int32) (re : Int32) (qu : Int32) (p0 : Int32) : MI l yX1_islandVoltage wsX1_islandVoltage ({ frames := 1, cells := 0, slots := 0, locals := 21 } : Room) D (tysK cI cJ cZ cO) [.ref h0, .int p0] [(h0, .inr (1, [.int vo, .int fr, .int an, .int co, .int gv, .int gf, .int ld, .int re, .int qu]))] (r_X1_islandVoltage ld p0) [(h0, .inr (1, [.int vo, .int fr, .int an, .int co, .int gv, .int gf, .int ld, .int re, .int qu]))] := by
  refine MI.of (cc := cX1_islandVoltage) (maxL := 2) (ret := .int) (by decide) rfl (Nat.le_of_ble_eq_true rfl) rfl ?_
  intro p e s m args below meth c A Q ls H locs B hS hP hD hl hret
  obtain ⟨hx, hb, hml, hown, hts, hK, hN, hA, hlocks⟩ := B
  have hi1 : ∀ w ∈ u_ws RX1 TX1 9, w ∈ wsX1_islandVoltage := by decide +kernel
  have hl : lv_has ls 2 [(0, .ref h0), (1, .int p0)] := hl
  refine lv_aload_n hx hb dX1_islandVoltage_0 rfl (lv_at hl 0 rfl) ?_
  refine va_get (D := D) (ci := 1) (v := .int ld) (C := RX1) (T := TX1) (N := 9) hx hb hts hi1 hown hK hP 0 rfl rfl 6 (by decide) (hts (.fieldLink RX1 32 "GridInverter$Line" "load" "I") (by decide +kernel)) (fun _ h9 => h9) rfl dX1_islandVoltage_1 ?_
  have K29 : ∀ (y3 : Int32) (H : Heap) (locs : List Loc) (ls : Array Slot), y3 = (if ld ≤ 0 then 400 else (if 400 < ((230 * p0) / ld) then 400 else ((230 * p0) / ld) : Int32) : Int32) → va_P D vwCl [(h0, .inr (1, [.int vo, .int fr, .int an, .int co, .int gv, .int gf, .int ld, .int re, .int qu]))] H → va_D A [(h0, .inr (1, [.int vo, .int fr, .int an, .int co, .int gv, .int gf, .int ld, .int re, .int qu]))] → va_S A s.heap H locs → lv_has ls 2 [(0, .ref h0), (1, .int p0)] → W p l e ({ frames := 1, cells := 0, slots := 0, locals := 21 } : Room) s m args below meth c H locs 0 0 Q (F0 m 29 ls [.int y3]) := by
    intro y3 H locs ls ey3 hP hD hS hl
    exact hret _ _ _ _ _ _ _ _ (by subst ey3; first | with_reducible rfl | (simp only [r_X1_islandVoltage]; done) | rfl) (by subst ey3; first | with_reducible rfl | (simp only [r_X1_islandVoltage]; done) | rfl) hP hD hS (Nat.le_of_ble_eq_true rfl) (Nat.le_of_ble_eq_true rfl) dX1_islandVoltage_29
  refine lv_if_le (tgt := 26) hx hb dX1_islandVoltage_4 (by decide) (fun c2 => ?_) (fun c2 => ?_)
  · refine lv_sipush (v := 400) hx hb dX1_islandVoltage_26 (by decide) ?_
    exact K29 _ _ _ _ (by first | with_reducible rfl | (simp only [if_pos c2]; done) | rfl) (hP.sub [0] rfl) (hD.sub [0] (by decide) rfl) hS (lv_sub hl [0, 1] rfl)
  · refine lv_sipush (v := 230) hx hb dX1_islandVoltage_7 (by decide) ?_
    refine lv_iload_n hx hb dX1_islandVoltage_10 rfl (lv_at hl 1 rfl) ?_
    refine lv_imul hx hb dX1_islandVoltage_11 ?_
    refine lv_aload_n hx hb dX1_islandVoltage_12 rfl (lv_at hl 0 rfl) ?_
    refine va_get (D := D) (ci := 1) (v := .int ld) (C := RX1) (T := TX1) (N := 9) hx hb hts hi1 hown hK hP 0 rfl rfl 6 (by decide) (hts (.fieldLink RX1 32 "GridInverter$Line" "load" "I") (by decide +kernel)) (fun _ h9 => h9) rfl dX1_islandVoltage_13 ?_
    refine lv_idiv hx hb dX1_islandVoltage_16 (fun h => c2 (by rw [h]; decide)) ?_
    refine lv_sipush (v := 400) hx hb dX1_islandVoltage_17 (by decide) ?_
    refine va_mmin hx hb (hml.trans hl.1.symm) hown (hts (.methodLink RX1 55 Lib.Math.min.name) (by decide +kernel)) (hts (.static Lib.Math.min.name) (by decide +kernel)) (hts (.initialized "java/lang/Math") (by decide +kernel)) (hts (.code Lib.Math.min.name Lib.Math.min.code 2 (some .int)) (by decide +kernel)) (Nat.le_of_ble_eq_true rfl) (Nat.le_of_ble_eq_true rfl) (Nat.le_of_ble_eq_true rfl) (Nat.le_of_ble_eq_true rfl) dX1_islandVoltage_20 ?_
    refine lv_topi (fun x4 ex4 => ?_)
    refine lv_goto (tgt := 29) hx hb dX1_islandVoltage_23 (by decide) ?_
    exact K29 _ _ _ _ (by subst ex4; first | with_reducible rfl | (simp only [if_neg c2]; done) | rfl) (hP.sub [0] rfl) (hD.sub [0] (by decide) rfl) hS (lv_sub hl [0, 1] rfl)

def r_X1_islandFrequency (fr : Int32) (re : Int32) (qu : Int32) (p0 : Int32) : Int32 := (r_X6_limitedFrequency ((fr + ((p0 - fr) / 4)) + (((re - fr) * qu) / 100)))
set_option maxHeartbeats 4000000 in
set_option maxRecDepth 100000 in
theorem mX1_islandFrequency (l : Launch) (D : va_G) (cI cJ cZ cO : ClassId) (h0 : Nat) (vo : Int32) (fr : Int32) (an : Int32) (co : Int32) (gv : Int32) (gf : Int32) (ld : Int32) (re : Int32) (qu : Int32) (p0 : Int32) : MI l yX1_islandFrequency wsX1_islandFrequency ({ frames := 2, cells := 0, slots := 0, locals := 41 } : Room) D (tysK cI cJ cZ cO) [.ref h0, .int p0] [(h0, .inr (1, [.int vo, .int fr, .int an, .int co, .int gv, .int gf, .int ld, .int re, .int qu]))] (r_X1_islandFrequency fr re qu p0) [(h0, .inr (1, [.int vo, .int fr, .int an, .int co, .int gv, .int gf, .int ld, .int re, .int qu]))] := by
  refine MI.of (cc := cX1_islandFrequency) (maxL := 4) (ret := .int) (by decide) rfl (Nat.le_of_ble_eq_true rfl) rfl ?_
  intro p e s m args below meth c A Q ls H locs B hS hP hD hl hret
  obtain ⟨hx, hb, hml, hown, hts, hK, hN, hA, hlocks⟩ := B
  have hi1 : ∀ w ∈ u_ws RX1 TX1 9, w ∈ wsX1_islandFrequency := by decide +kernel
  have hl : lv_has ls 4 [(0, .ref h0), (1, .int p0)] := hl
  refine lv_iload_n hx hb dX1_islandFrequency_0 rfl (lv_at hl 1 rfl) ?_
  refine lv_aload_n hx hb dX1_islandFrequency_1 rfl (lv_at hl 0 rfl) ?_
  refine va_get (D := D) (ci := 1) (v := .int fr) (C := RX1) (T := TX1) (N := 9) hx hb hts hi1 hown hK hP 0 rfl rfl 1 (by decide) (hts (.fieldLink RX1 16 "GridInverter$Line" "frequency" "I") (by decide +kernel)) (fun _ h9 => h9) rfl dX1_islandFrequency_2 ?_
  refine lv_isub hx hb dX1_islandFrequency_5 ?_
  refine lv_iconst (v := 4) hx hb dX1_islandFrequency_6 (by decide) ?_
  refine lv_idiv hx hb dX1_islandFrequency_7 (by decide) ?_
  refine lv_istore_n (lv' := [(2, .int ((p0 - fr) / 4)), (0, .ref h0), (1, .int p0)]) hx hb dX1_islandFrequency_8 rfl hl (by decide) rfl (fun ls hl => ?_)
  refine lv_aload_n hx hb dX1_islandFrequency_9 rfl (lv_at hl 1 rfl) ?_
  refine va_get (D := D) (ci := 1) (v := .int re) (C := RX1) (T := TX1) (N := 9) hx hb hts hi1 hown hK hP 0 rfl rfl 7 (by decide) (hts (.fieldLink RX1 35 "GridInverter$Line" "resonance" "I") (by decide +kernel)) (fun _ h9 => h9) rfl dX1_islandFrequency_10 ?_
  refine lv_aload_n hx hb dX1_islandFrequency_13 rfl (lv_at hl 1 rfl) ?_
  refine va_get (D := D) (ci := 1) (v := .int fr) (C := RX1) (T := TX1) (N := 9) hx hb hts hi1 hown hK hP 0 rfl rfl 1 (by decide) (hts (.fieldLink RX1 16 "GridInverter$Line" "frequency" "I") (by decide +kernel)) (fun _ h9 => h9) rfl dX1_islandFrequency_14 ?_
  refine lv_isub hx hb dX1_islandFrequency_17 ?_
  refine lv_aload_n hx hb dX1_islandFrequency_18 rfl (lv_at hl 1 rfl) ?_
  refine va_get (D := D) (ci := 1) (v := .int qu) (C := RX1) (T := TX1) (N := 9) hx hb hts hi1 hown hK hP 0 rfl rfl 8 (by decide) (hts (.fieldLink RX1 38 "GridInverter$Line" "quality" "I") (by decide +kernel)) (fun _ h9 => h9) rfl dX1_islandFrequency_19 ?_
  refine lv_imul hx hb dX1_islandFrequency_22 ?_
  refine lv_bipush (v := 100) hx hb dX1_islandFrequency_23 (by decide) ?_
  refine lv_idiv hx hb dX1_islandFrequency_25 (by decide) ?_
  refine lv_istore_n (lv' := [(3, .int (((re - fr) * qu) / 100)), (2, .int ((p0 - fr) / 4)), (0, .ref h0), (1, .int p0)]) hx hb dX1_islandFrequency_26 rfl hl (by decide) rfl (fun ls hl => ?_)
  refine lv_aload_n hx hb dX1_islandFrequency_27 rfl (lv_at hl 2 rfl) ?_
  refine va_get (D := D) (ci := 1) (v := .int fr) (C := RX1) (T := TX1) (N := 9) hx hb hts hi1 hown hK hP 0 rfl rfl 1 (by decide) (hts (.fieldLink RX1 16 "GridInverter$Line" "frequency" "I") (by decide +kernel)) (fun _ h9 => h9) rfl dX1_islandFrequency_28 ?_
  refine lv_iload_n hx hb dX1_islandFrequency_31 rfl (lv_at hl 1 rfl) ?_
  refine lv_iadd hx hb dX1_islandFrequency_32 ?_
  refine lv_iload_n hx hb dX1_islandFrequency_33 rfl (lv_at hl 0 rfl) ?_
  refine lv_iadd hx hb dX1_islandFrequency_34 ?_
  refine lv_topi (fun x1 ex1 => ?_)
  refine call_i (wr := [(h0, .inr (1, [.int vo, .int fr, .int an, .int co, .int gv, .int gf, .int ld, .int re, .int qu]))]) (k := 0) (n := 0) (run_SN (As := [.int x1]) (rest := []) ⟨hx, hb, hml, hown, hts⟩ (mX6_limitedFrequency l D cI cJ cZ cO x1 H.size) ⟨va_cnB 1 hts ggX1_islandFrequency_X6_limitedFrequency rfl rfl rfl hN.2.2.2.2.2.2.1 (hts (.initialized RX6) (by decide +kernel)) (by decide +kernel) ⟨Nat.le_of_ble_eq_true rfl, Nat.le_of_ble_eq_true rfl⟩, (hts (.static yX6_limitedFrequency) (by decide +kernel))⟩ hK hN hP hD [] (by decide) rfl rfl rfl hl.1 (Nat.le_of_ble_eq_true rfl) dX1_islandFrequency_35 ⟨Nat.le_of_ble_eq_true rfl, Nat.le_of_ble_eq_true rfl⟩) hP hD hS hA [] [0] rfl rfl (by decide) (by decide) (Nat.le_of_ble_eq_true rfl) (Nat.le_of_ble_eq_true rfl) (fun H locs hP hD hS => ?_)
  have hP : va_P D vwCl [(h0, .inr (1, [.int vo, .int fr, .int an, .int co, .int gv, .int gf, .int ld, .int re, .int qu]))] H := hP
  have hD : va_D A [(h0, .inr (1, [.int vo, .int fr, .int an, .int co, .int gv, .int gf, .int ld, .int re, .int qu]))] := hD
  exact hret _ _ _ _ _ _ _ _ (by subst ex1; first | with_reducible rfl | (simp only [r_X1_islandFrequency]; done) | rfl) (by subst ex1; first | with_reducible rfl | (simp only [r_X1_islandFrequency]; done) | rfl) hP hD hS (Nat.le_of_ble_eq_true rfl) (Nat.le_of_ble_eq_true rfl) dX1_islandFrequency_38

def v_h0_voltage_X1_settle (co : Int32) (gv : Int32) (ld : Int32) (p0 : Int32) : Int32 := (if co = 0 then (if p0 ≤ 0 then 0 else (r_X1_islandVoltage ld p0) : Int32) else gv : Int32)
def v_h0_frequency_X1_settle (fr : Int32) (co : Int32) (gf : Int32) (re : Int32) (qu : Int32) (p0 : Int32) (p1 : Int32) : Int32 := (if co = 0 then (if p0 ≤ 0 then fr else (r_X1_islandFrequency fr re qu p1) : Int32) else gf : Int32)
set_option maxHeartbeats 4000000 in
set_option maxRecDepth 100000 in
theorem mX1_settle (l : Launch) (D : va_G) (cI cJ cZ cO : ClassId) (h0 : Nat) (vo : Int32) (fr : Int32) (an : Int32) (co : Int32) (gv : Int32) (gf : Int32) (ld : Int32) (re : Int32) (qu : Int32) (p0 : Int32) (p1 : Int32) : MV l yX1_settle wsX1_settle ({ frames := 3, cells := 0, slots := 0, locals := 64 } : Room) D (tysK cI cJ cZ cO) [.ref h0, .int p0, .int p1] [(h0, .inr (1, [.int vo, .int fr, .int an, .int co, .int gv, .int gf, .int ld, .int re, .int qu]))] (fun (_ : Unit) => [(h0, .inr (1, [.int (v_h0_voltage_X1_settle co gv ld p0), .int (v_h0_frequency_X1_settle fr co gf re qu p0 p1), .int an, .int co, .int gv, .int gf, .int ld, .int re, .int qu]))]) := by
  refine MV.of (cc := cX1_settle) (maxL := 3) (by decide) rfl (Nat.le_of_ble_eq_true rfl) ?_
  intro p e s m args below meth c A Q ls H locs B hin hS hP hD hl hret
  obtain ⟨hx, hb, hml, hown, hts, hK, hN, hA, hlocks⟩ := B
  have hi1 : ∀ w ∈ u_ws RX1 TX1 9, w ∈ wsX1_settle := by decide +kernel
  have hl : lv_has ls 3 [(0, .ref h0), (1, .int p0), (2, .int p1)] := hl
  refine lv_aload_n hx hb dX1_settle_0 rfl (lv_at hl 0 rfl) ?_
  refine va_get (D := D) (ci := 1) (v := .int co) (C := RX1) (T := TX1) (N := 9) hx hb hts hi1 hown hK hP 0 rfl rfl 3 (by decide) (hts (.fieldLink RX1 22 "GridInverter$Line" "connected" "Z") (by decide +kernel)) (fun _ h9 => h9) rfl dX1_settle_1 ?_
  have K56 : ∀ (y3 : Int32) (y4 : Int32) (H : Heap) (locs : List Loc) (ls : Array Slot), y3 = (if co = 0 then (if p0 ≤ 0 then 0 else (r_X1_islandVoltage ld p0) : Int32) else gv : Int32) → y4 = (if co = 0 then (if p0 ≤ 0 then fr else (r_X1_islandFrequency fr re qu p1) : Int32) else gf : Int32) → va_P D vwCl [(h0, .inr (1, [.int y3, .int y4, .int an, .int co, .int gv, .int gf, .int ld, .int re, .int qu]))] H → va_D A [(h0, .inr (1, [.int y3, .int y4, .int an, .int co, .int gv, .int gf, .int ld, .int re, .int qu]))] → va_S A s.heap H locs → lv_has ls 3 [(0, .ref h0), (1, .int p0), (2, .int p1)] → W p l e ({ frames := 3, cells := 0, slots := 0, locals := 64 } : Room) s m args below meth c H locs 0 0 Q (F0 m 56 ls []) := by
    intro y3 y4 H locs ls ey3 ey4 hP hD hS hl
    exact hret () _ _ _ _ _ _ _ (by subst ey3; subst ey4; first | with_reducible rfl | (simp only [v_h0_voltage_X1_settle, v_h0_frequency_X1_settle]; done) | rfl) hP hD hS (Nat.le_of_ble_eq_true rfl) (Nat.le_of_ble_eq_true rfl) dX1_settle_56
  refine lv_if_eq (tgt := 26) hx hb dX1_settle_4 (by decide) (fun c2 => ?_) (fun c2 => ?_)
  · refine lv_iload_n hx hb dX1_settle_26 rfl (lv_at hl 1 rfl) ?_
    refine lv_if_le (tgt := 51) hx hb dX1_settle_27 (by decide) (fun c6 => ?_) (fun c6 => ?_)
    · refine lv_aload_n hx hb dX1_settle_51 rfl (lv_at hl 0 rfl) ?_
      refine lv_iconst (v := 0) hx hb dX1_settle_52 (by decide) ?_
      refine va_put (D := D) (ci := 1) (v := .int 0) (ty := .int) (C := RX1) (T := TX1) (N := 9) hx hb hts hi1 tyX1 tyX1_ok nmX1 hown hK hP hD hS 0 rfl rfl 0 (by decide) (hts (.fieldLink RX1 9 "GridInverter$Line" "voltage" "I") (by decide +kernel)) (fun _ h9 => h9) rfl (by decide +kernel) rfl rfl (Nat.le_of_ble_eq_true rfl) dX1_settle_53 (fun H locs hP hD hS => ?_)
      have hP : va_P D vwCl [(h0, .inr (1, [.int 0, .int fr, .int an, .int co, .int gv, .int gf, .int ld, .int re, .int qu]))] H := hP
      have hD : va_D A [(h0, .inr (1, [.int 0, .int fr, .int an, .int co, .int gv, .int gf, .int ld, .int re, .int qu]))] := hD
      exact K56 _ _ _ _ _ (by first | with_reducible rfl | (simp only [if_pos c2, if_pos c6]; done) | rfl) (by first | with_reducible rfl | (simp only [if_pos c2, if_pos c6]; done) | rfl) (hP.sub [0] rfl) (hD.sub [0] (by decide) rfl) hS (lv_sub hl [0, 1, 2] rfl)
    · refine lv_aload_n hx hb dX1_settle_30 rfl (lv_at hl 0 rfl) ?_
      refine lv_aload_n hx hb dX1_settle_31 rfl (lv_at hl 0 rfl) ?_
      refine lv_iload_n hx hb dX1_settle_32 rfl (lv_at hl 1 rfl) ?_
      refine call_i (wr := []) (k := 0) (n := 0) (run_V (As := [.int p0]) (rest := [.ref h0]) ⟨hx, hb, hml, hown, hts⟩ (mX1_islandVoltage l D cI cJ cZ cO h0 vo fr an co gv gf ld re qu p0 H.size) (cwV 1 hts gX1_settle_X1_islandVoltage rfl rfl rfl (by decide +kernel) ⟨Nat.le_of_ble_eq_true rfl, Nat.le_of_ble_eq_true rfl⟩) hK hN hP hD [0] (by decide) rfl 1 0 rfl rfl rfl rfl rfl hl.1 (Nat.le_of_ble_eq_true rfl) dX1_settle_33 ⟨Nat.le_of_ble_eq_true rfl, Nat.le_of_ble_eq_true rfl⟩) hP hD hS hA [0] [] rfl rfl (by decide) (by decide) (Nat.le_of_ble_eq_true rfl) (Nat.le_of_ble_eq_true rfl) (fun H locs hP hD hS => ?_)
      have hP : va_P D vwCl [(h0, .inr (1, [.int vo, .int fr, .int an, .int co, .int gv, .int gf, .int ld, .int re, .int qu]))] H := hP
      have hD : va_D A [(h0, .inr (1, [.int vo, .int fr, .int an, .int co, .int gv, .int gf, .int ld, .int re, .int qu]))] := hD
      refine va_put (D := D) (ci := 1) (v := .int (r_X1_islandVoltage ld p0)) (ty := .int) (C := RX1) (T := TX1) (N := 9) hx hb hts hi1 tyX1 tyX1_ok nmX1 hown hK hP hD hS 0 rfl rfl 0 (by decide) (hts (.fieldLink RX1 9 "GridInverter$Line" "voltage" "I") (by decide +kernel)) (fun _ h9 => h9) rfl (by decide +kernel) rfl rfl (Nat.le_of_ble_eq_true rfl) dX1_settle_36 (fun H locs hP hD hS => ?_)
      have hP : va_P D vwCl [(h0, .inr (1, [.int (r_X1_islandVoltage ld p0), .int fr, .int an, .int co, .int gv, .int gf, .int ld, .int re, .int qu]))] H := hP
      have hD : va_D A [(h0, .inr (1, [.int (r_X1_islandVoltage ld p0), .int fr, .int an, .int co, .int gv, .int gf, .int ld, .int re, .int qu]))] := hD
      refine lv_aload_n hx hb dX1_settle_39 rfl (lv_at hl 0 rfl) ?_
      refine lv_aload_n hx hb dX1_settle_40 rfl (lv_at hl 0 rfl) ?_
      refine lv_iload_n hx hb dX1_settle_41 rfl (lv_at hl 2 rfl) ?_
      refine call_i (wr := []) (k := 0) (n := 0) (run_V (As := [.int p1]) (rest := [.ref h0]) ⟨hx, hb, hml, hown, hts⟩ (mX1_islandFrequency l D cI cJ cZ cO h0 (r_X1_islandVoltage ld p0) fr an co gv gf ld re qu p1 H.size) (cwV 1 hts gX1_settle_X1_islandFrequency rfl rfl rfl (by decide +kernel) ⟨Nat.le_of_ble_eq_true rfl, Nat.le_of_ble_eq_true rfl⟩) hK hN hP hD [0] (by decide) rfl 1 0 rfl rfl rfl rfl rfl hl.1 (Nat.le_of_ble_eq_true rfl) dX1_settle_42 ⟨Nat.le_of_ble_eq_true rfl, Nat.le_of_ble_eq_true rfl⟩) hP hD hS hA [0] [] rfl rfl (by decide) (by decide) (Nat.le_of_ble_eq_true rfl) (Nat.le_of_ble_eq_true rfl) (fun H locs hP hD hS => ?_)
      have hP : va_P D vwCl [(h0, .inr (1, [.int (r_X1_islandVoltage ld p0), .int fr, .int an, .int co, .int gv, .int gf, .int ld, .int re, .int qu]))] H := hP
      have hD : va_D A [(h0, .inr (1, [.int (r_X1_islandVoltage ld p0), .int fr, .int an, .int co, .int gv, .int gf, .int ld, .int re, .int qu]))] := hD
      refine lv_topi (fun x7 ex7 => ?_)
      refine va_put (D := D) (ci := 1) (v := .int x7) (ty := .int) (C := RX1) (T := TX1) (N := 9) hx hb hts hi1 tyX1 tyX1_ok nmX1 hown hK hP hD hS 0 rfl rfl 1 (by decide) (hts (.fieldLink RX1 16 "GridInverter$Line" "frequency" "I") (by decide +kernel)) (fun _ h9 => h9) rfl (by decide +kernel) rfl rfl (Nat.le_of_ble_eq_true rfl) dX1_settle_45 (fun H locs hP hD hS => ?_)
      have hP : va_P D vwCl [(h0, .inr (1, [.int (r_X1_islandVoltage ld p0), .int x7, .int an, .int co, .int gv, .int gf, .int ld, .int re, .int qu]))] H := hP
      have hD : va_D A [(h0, .inr (1, [.int (r_X1_islandVoltage ld p0), .int x7, .int an, .int co, .int gv, .int gf, .int ld, .int re, .int qu]))] := hD
      refine lv_goto (tgt := 56) hx hb dX1_settle_48 (by decide) ?_
      exact K56 _ _ _ _ _ (by subst ex7; first | with_reducible rfl | (simp only [if_pos c2, if_neg c6]; done) | rfl) (by subst ex7; first | with_reducible rfl | (simp only [if_pos c2, if_neg c6]; done) | rfl) (hP.sub [0] rfl) (hD.sub [0] (by decide) rfl) hS (lv_sub hl [0, 1, 2] rfl)
  · refine lv_aload_n hx hb dX1_settle_7 rfl (lv_at hl 0 rfl) ?_
    refine lv_aload_n hx hb dX1_settle_8 rfl (lv_at hl 0 rfl) ?_
    refine va_get (D := D) (ci := 1) (v := .int gv) (C := RX1) (T := TX1) (N := 9) hx hb hts hi1 hown hK hP 0 rfl rfl 4 (by decide) (hts (.fieldLink RX1 26 "GridInverter$Line" "gridVoltage" "I") (by decide +kernel)) (fun _ h9 => h9) rfl dX1_settle_9 ?_
    refine va_put (D := D) (ci := 1) (v := .int gv) (ty := .int) (C := RX1) (T := TX1) (N := 9) hx hb hts hi1 tyX1 tyX1_ok nmX1 hown hK hP hD hS 0 rfl rfl 0 (by decide) (hts (.fieldLink RX1 9 "GridInverter$Line" "voltage" "I") (by decide +kernel)) (fun _ h9 => h9) rfl (by decide +kernel) rfl rfl (Nat.le_of_ble_eq_true rfl) dX1_settle_12 (fun H locs hP hD hS => ?_)
    have hP : va_P D vwCl [(h0, .inr (1, [.int gv, .int fr, .int an, .int co, .int gv, .int gf, .int ld, .int re, .int qu]))] H := hP
    have hD : va_D A [(h0, .inr (1, [.int gv, .int fr, .int an, .int co, .int gv, .int gf, .int ld, .int re, .int qu]))] := hD
    refine lv_aload_n hx hb dX1_settle_15 rfl (lv_at hl 0 rfl) ?_
    refine lv_aload_n hx hb dX1_settle_16 rfl (lv_at hl 0 rfl) ?_
    refine va_get (D := D) (ci := 1) (v := .int gf) (C := RX1) (T := TX1) (N := 9) hx hb hts hi1 hown hK hP 0 rfl rfl 5 (by decide) (hts (.fieldLink RX1 29 "GridInverter$Line" "gridFrequency" "I") (by decide +kernel)) (fun _ h9 => h9) rfl dX1_settle_17 ?_
    refine va_put (D := D) (ci := 1) (v := .int gf) (ty := .int) (C := RX1) (T := TX1) (N := 9) hx hb hts hi1 tyX1 tyX1_ok nmX1 hown hK hP hD hS 0 rfl rfl 1 (by decide) (hts (.fieldLink RX1 16 "GridInverter$Line" "frequency" "I") (by decide +kernel)) (fun _ h9 => h9) rfl (by decide +kernel) rfl rfl (Nat.le_of_ble_eq_true rfl) dX1_settle_20 (fun H locs hP hD hS => ?_)
    have hP : va_P D vwCl [(h0, .inr (1, [.int gv, .int gf, .int an, .int co, .int gv, .int gf, .int ld, .int re, .int qu]))] H := hP
    have hD : va_D A [(h0, .inr (1, [.int gv, .int gf, .int an, .int co, .int gv, .int gf, .int ld, .int re, .int qu]))] := hD
    refine lv_goto (tgt := 56) hx hb dX1_settle_23 (by decide) ?_
    exact K56 _ _ _ _ _ (by first | with_reducible rfl | (simp only [if_neg c2]; done) | rfl) (by first | with_reducible rfl | (simp only [if_neg c2]; done) | rfl) (hP.sub [0] rfl) (hD.sub [0] (by decide) rfl) hS (lv_sub hl [0, 1, 2] rfl)

def v_h0_angle_X3_follow (la : Int32) (lf : Int32) (kp : Int32) (p0 : Int32) (p1 : Int32) : Int32 := (if p1 < 20 then (r_J9_floorMod_7cf53 (la + lf) 1000000) else (r_J9_floorMod_7cf53 ((la + lf) + ((((r_J9_floorMod_7cf53 ((p0 - (la + lf)) + 500000) 1000000) - 500000) * kp) / 1000)) 1000000) : Int32)
def v_h0_frequency_X3_follow (la : Int32) (lf : Int32) (ki : Int32) (p0 : Int32) (p1 : Int32) : Int32 := (if p1 < 20 then lf else (r_X6_limitedFrequency (lf + ((((r_J9_floorMod_7cf53 ((p0 - (la + lf)) + 500000) 1000000) - 500000) * ki) / 1000))) : Int32)
def v_h0_error_X3_follow (la : Int32) (lf : Int32) (p0 : Int32) (p1 : Int32) : Int32 := (if p1 < 20 then 0 else ((r_J9_floorMod_7cf53 ((p0 - (la + lf)) + 500000) 1000000) - 500000) : Int32)
def v_h0_lockCount_X3_follow (la : Int32) (lf : Int32) (to : Int32) (lk : Int32) (p0 : Int32) (p1 : Int32) : Int32 := (if p1 < 20 then 0 else (if (r_X6_outside ((r_J9_floorMod_7cf53 ((p0 - (la + lf)) + 500000) 1000000) - 500000) (-to) to) = 0 then (lk + 1) else 0 : Int32) : Int32)
set_option maxHeartbeats 4000000 in
set_option maxRecDepth 100000 in
theorem mX3_follow (l : Launch) (D : va_G) (cI cJ cZ cO : ClassId) (h0 : Nat) (h1 : Nat) (la : Int32) (lf : Int32) (le : Int32) (kp : Int32) (ki : Int32) (to : Int32) (lt : Int32) (lk : Int32) (p0 : Int32) (p1 : Int32) : MV l yX3_follow wsX3_follow ({ frames := 2, cells := 0, slots := 0, locals := 41 } : Room) D (tysK cI cJ cZ cO) [.ref h0, .int p0, .int p1] [(h0, .inr (3, [.int la, .int lf, .int le, .int kp, .int ki, .int to, .int lt, .int lk, .ref h1]))] (fun (_ : Unit) => [(h0, .inr (3, [.int (v_h0_angle_X3_follow la lf kp p0 p1), .int (v_h0_frequency_X3_follow la lf ki p0 p1), .int (v_h0_error_X3_follow la lf p0 p1), .int kp, .int ki, .int to, .int lt, .int (v_h0_lockCount_X3_follow la lf to lk p0 p1), .ref h1]))]) := by
  refine MV.of (cc := cX3_follow) (maxL := 4) (by decide) rfl (Nat.le_of_ble_eq_true rfl) ?_
  intro p e s m args below meth c A Q ls H locs B hin hS hP hD hl hret
  obtain ⟨hx, hb, hml, hown, hts, hK, hN, hA, hlocks⟩ := B
  have hi3 : ∀ w ∈ u_ws RX3 TX3 9, w ∈ wsX3_follow := by decide +kernel
  have hl : lv_has ls 4 [(0, .ref h0), (1, .int p0), (2, .int p1)] := hl
  refine lv_aload_n hx hb dX3_follow_0 rfl (lv_at hl 0 rfl) ?_
  refine va_get (D := D) (ci := 3) (v := .int la) (C := RX3) (T := TX3) (N := 9) hx hb hts hi3 hown hK hP 0 rfl rfl 0 (by decide) (hts (.fieldLink RX3 9 "GridInverter$Loop" "angle" "I") (by decide +kernel)) (fun _ h9 => h9) rfl dX3_follow_1 ?_
  refine lv_aload_n hx hb dX3_follow_4 rfl (lv_at hl 0 rfl) ?_
  refine va_get (D := D) (ci := 3) (v := .int lf) (C := RX3) (T := TX3) (N := 9) hx hb hts hi3 hown hK hP 0 rfl rfl 1 (by decide) (hts (.fieldLink RX3 16 "GridInverter$Loop" "frequency" "I") (by decide +kernel)) (fun _ h9 => h9) rfl dX3_follow_5 ?_
  refine lv_iadd hx hb dX3_follow_8 ?_
  refine lv_istore_n (lv' := [(3, .int (la + lf)), (0, .ref h0), (1, .int p0), (2, .int p1)]) hx hb dX3_follow_9 rfl hl (by decide) rfl (fun ls hl => ?_)
  refine lv_iload_n hx hb dX3_follow_10 rfl (lv_at hl 3 rfl) ?_
  refine lv_bipush (v := 20) hx hb dX3_follow_11 (by decide) ?_
  have K139 : ∀ (y3 : Int32) (y4 : Int32) (y5 : Int32) (y6 : Int32) (H : Heap) (locs : List Loc) (ls : Array Slot), y3 = (if p1 < 20 then (r_J9_floorMod_7cf53 (la + lf) 1000000) else (r_J9_floorMod_7cf53 ((la + lf) + ((((r_J9_floorMod_7cf53 ((p0 - (la + lf)) + 500000) 1000000) - 500000) * kp) / 1000)) 1000000) : Int32) → y4 = (if p1 < 20 then lf else (r_X6_limitedFrequency (lf + ((((r_J9_floorMod_7cf53 ((p0 - (la + lf)) + 500000) 1000000) - 500000) * ki) / 1000))) : Int32) → y5 = (if p1 < 20 then 0 else ((r_J9_floorMod_7cf53 ((p0 - (la + lf)) + 500000) 1000000) - 500000) : Int32) → y6 = (if p1 < 20 then 0 else (if (r_X6_outside ((r_J9_floorMod_7cf53 ((p0 - (la + lf)) + 500000) 1000000) - 500000) (-to) to) = 0 then (lk + 1) else 0 : Int32) : Int32) → va_P D vwCl [(h0, .inr (3, [.int y3, .int y4, .int y5, .int kp, .int ki, .int to, .int lt, .int y6, .ref h1]))] H → va_D A [(h0, .inr (3, [.int y3, .int y4, .int y5, .int kp, .int ki, .int to, .int lt, .int y6, .ref h1]))] → va_S A s.heap H locs → lv_has ls 4 [(0, .ref h0), (1, .int p0), (2, .int p1), (3, .int (la + lf))] → W p l e ({ frames := 2, cells := 0, slots := 0, locals := 41 } : Room) s m args below meth c H locs 0 0 Q (F0 m 139 ls []) := by
    intro y3 y4 y5 y6 H locs ls ey3 ey4 ey5 ey6 hP hD hS hl
    exact hret () _ _ _ _ _ _ _ (by subst ey3; subst ey4; subst ey5; subst ey6; first | with_reducible rfl | (simp only [v_h0_angle_X3_follow, v_h0_frequency_X3_follow, v_h0_error_X3_follow, v_h0_lockCount_X3_follow]; done) | rfl) hP hD hS (Nat.le_of_ble_eq_true rfl) (Nat.le_of_ble_eq_true rfl) dX3_follow_139
  refine lv_icmp_lt (tgt := 119) hx hb dX3_follow_13 (by decide) (fun c2 => ?_) (fun c2 => ?_)
  · refine lv_aload_n hx hb dX3_follow_119 rfl (lv_at hl 1 rfl) ?_
    refine lv_iconst (v := 0) hx hb dX3_follow_120 (by decide) ?_
    refine va_put (D := D) (ci := 3) (v := .int 0) (ty := .int) (C := RX3) (T := TX3) (N := 9) hx hb hts hi3 tyX3 tyX3_ok nmX3 hown hK hP hD hS 0 rfl rfl 2 (by decide) (hts (.fieldLink RX3 19 "GridInverter$Loop" "error" "I") (by decide +kernel)) (fun _ h9 => h9) rfl (by decide +kernel) rfl rfl (Nat.le_of_ble_eq_true rfl) dX3_follow_121 (fun H locs hP hD hS => ?_)
    have hP : va_P D vwCl [(h0, .inr (3, [.int la, .int lf, .int 0, .int kp, .int ki, .int to, .int lt, .int lk, .ref h1]))] H := hP
    have hD : va_D A [(h0, .inr (3, [.int la, .int lf, .int 0, .int kp, .int ki, .int to, .int lt, .int lk, .ref h1]))] := hD
    refine lv_aload_n hx hb dX3_follow_124 rfl (lv_at hl 1 rfl) ?_
    refine lv_iload_n hx hb dX3_follow_125 rfl (lv_at hl 0 rfl) ?_
    refine lv_ldc hx hb hown (hts (.constant RX3 42 (1000000)) (by decide +kernel)) dX3_follow_126 ?_
    refine call_i (wr := [(h0, .inr (3, [.int la, .int lf, .int 0, .int kp, .int ki, .int to, .int lt, .int lk, .ref h1]))]) (k := 0) (n := 0) (run_S (As := [.int (la + lf), .int 1000000]) (rest := [.ref h0]) ⟨hx, hb, hml, hown, hts⟩ (mJ9_floorMod_7cf53 l D cI cJ cZ cO (la + lf) 1000000 (by decide) H.size) (va_cwS 2 hts gX3_follow_J9_floorMod_7cf53 rfl rfl rfl (by decide +kernel) ⟨Nat.le_of_ble_eq_true rfl, Nat.le_of_ble_eq_true rfl⟩) hK hN hP hD [] (by decide) rfl rfl rfl hl.1 (Nat.le_of_ble_eq_true rfl) dX3_follow_128 ⟨Nat.le_of_ble_eq_true rfl, Nat.le_of_ble_eq_true rfl⟩) hP hD hS hA [] [0] rfl rfl (by decide) (by decide) (Nat.le_of_ble_eq_true rfl) (Nat.le_of_ble_eq_true rfl) (fun H locs hP hD hS => ?_)
    have hP : va_P D vwCl [(h0, .inr (3, [.int la, .int lf, .int 0, .int kp, .int ki, .int to, .int lt, .int lk, .ref h1]))] H := hP
    have hD : va_D A [(h0, .inr (3, [.int la, .int lf, .int 0, .int kp, .int ki, .int to, .int lt, .int lk, .ref h1]))] := hD
    refine lv_topi (fun x7 ex7 => ?_)
    refine va_put (D := D) (ci := 3) (v := .int x7) (ty := .int) (C := RX3) (T := TX3) (N := 9) hx hb hts hi3 tyX3 tyX3_ok nmX3 hown hK hP hD hS 0 rfl rfl 0 (by decide) (hts (.fieldLink RX3 9 "GridInverter$Loop" "angle" "I") (by decide +kernel)) (fun _ h9 => h9) rfl (by decide +kernel) rfl rfl (Nat.le_of_ble_eq_true rfl) dX3_follow_131 (fun H locs hP hD hS => ?_)
    have hP : va_P D vwCl [(h0, .inr (3, [.int x7, .int lf, .int 0, .int kp, .int ki, .int to, .int lt, .int lk, .ref h1]))] H := hP
    have hD : va_D A [(h0, .inr (3, [.int x7, .int lf, .int 0, .int kp, .int ki, .int to, .int lt, .int lk, .ref h1]))] := hD
    refine lv_aload_n hx hb dX3_follow_134 rfl (lv_at hl 1 rfl) ?_
    refine lv_iconst (v := 0) hx hb dX3_follow_135 (by decide) ?_
    refine va_put (D := D) (ci := 3) (v := .int 0) (ty := .int) (C := RX3) (T := TX3) (N := 9) hx hb hts hi3 tyX3 tyX3_ok nmX3 hown hK hP hD hS 0 rfl rfl 7 (by decide) (hts (.fieldLink RX3 34 "GridInverter$Loop" "lockCount" "I") (by decide +kernel)) (fun _ h9 => h9) rfl (by decide +kernel) rfl rfl (Nat.le_of_ble_eq_true rfl) dX3_follow_136 (fun H locs hP hD hS => ?_)
    have hP : va_P D vwCl [(h0, .inr (3, [.int x7, .int lf, .int 0, .int kp, .int ki, .int to, .int lt, .int 0, .ref h1]))] H := hP
    have hD : va_D A [(h0, .inr (3, [.int x7, .int lf, .int 0, .int kp, .int ki, .int to, .int lt, .int 0, .ref h1]))] := hD
    exact K139 _ _ _ _ _ _ _ (by subst ex7; first | with_reducible rfl | (simp only [if_pos c2]; done) | rfl) (by subst ex7; first | with_reducible rfl | (simp only [if_pos c2]; done) | rfl) (by subst ex7; first | with_reducible rfl | (simp only [if_pos c2]; done) | rfl) (by subst ex7; first | with_reducible rfl | (simp only [if_pos c2]; done) | rfl) (hP.sub [0] rfl) (hD.sub [0] (by decide) rfl) hS (lv_sub hl [1, 2, 3, 0] rfl)
  · refine lv_aload_n hx hb dX3_follow_16 rfl (lv_at hl 1 rfl) ?_
    refine lv_iload_n hx hb dX3_follow_17 rfl (lv_at hl 2 rfl) ?_
    refine lv_iload_n hx hb dX3_follow_18 rfl (lv_at hl 0 rfl) ?_
    refine lv_isub hx hb dX3_follow_19 ?_
    refine lv_ldc hx hb hown (hts (.constant RX3 41 (500000)) (by decide +kernel)) dX3_follow_20 ?_
    refine lv_iadd hx hb dX3_follow_22 ?_
    refine lv_topi (fun x8 ex8 => ?_)
    refine lv_ldc hx hb hown (hts (.constant RX3 42 (1000000)) (by decide +kernel)) dX3_follow_23 ?_
    refine call_i (wr := [(h0, .inr (3, [.int la, .int lf, .int le, .int kp, .int ki, .int to, .int lt, .int lk, .ref h1]))]) (k := 0) (n := 0) (run_S (As := [.int x8, .int 1000000]) (rest := [.ref h0]) ⟨hx, hb, hml, hown, hts⟩ (mJ9_floorMod_7cf53 l D cI cJ cZ cO x8 1000000 (by decide) H.size) (va_cwS 2 hts gX3_follow_J9_floorMod_7cf53 rfl rfl rfl (by decide +kernel) ⟨Nat.le_of_ble_eq_true rfl, Nat.le_of_ble_eq_true rfl⟩) hK hN hP hD [] (by decide) rfl rfl rfl hl.1 (Nat.le_of_ble_eq_true rfl) dX3_follow_25 ⟨Nat.le_of_ble_eq_true rfl, Nat.le_of_ble_eq_true rfl⟩) hP hD hS hA [] [0] rfl rfl (by decide) (by decide) (Nat.le_of_ble_eq_true rfl) (Nat.le_of_ble_eq_true rfl) (fun H locs hP hD hS => ?_)
    have hP : va_P D vwCl [(h0, .inr (3, [.int la, .int lf, .int le, .int kp, .int ki, .int to, .int lt, .int lk, .ref h1]))] H := hP
    have hD : va_D A [(h0, .inr (3, [.int la, .int lf, .int le, .int kp, .int ki, .int to, .int lt, .int lk, .ref h1]))] := hD
    refine lv_topi (fun x9 ex9 => ?_)
    refine lv_ldc hx hb hown (hts (.constant RX3 41 (500000)) (by decide +kernel)) dX3_follow_28 ?_
    refine lv_isub hx hb dX3_follow_30 ?_
    refine va_put (D := D) (ci := 3) (v := .int (x9 - 500000)) (ty := .int) (C := RX3) (T := TX3) (N := 9) hx hb hts hi3 tyX3 tyX3_ok nmX3 hown hK hP hD hS 0 rfl rfl 2 (by decide) (hts (.fieldLink RX3 19 "GridInverter$Loop" "error" "I") (by decide +kernel)) (fun _ h9 => h9) rfl (by decide +kernel) rfl rfl (Nat.le_of_ble_eq_true rfl) dX3_follow_31 (fun H locs hP hD hS => ?_)
    have hP : va_P D vwCl [(h0, .inr (3, [.int la, .int lf, .int (x9 - 500000), .int kp, .int ki, .int to, .int lt, .int lk, .ref h1]))] H := hP
    have hD : va_D A [(h0, .inr (3, [.int la, .int lf, .int (x9 - 500000), .int kp, .int ki, .int to, .int lt, .int lk, .ref h1]))] := hD
    refine lv_aload_n hx hb dX3_follow_34 rfl (lv_at hl 1 rfl) ?_
    refine lv_iload_n hx hb dX3_follow_35 rfl (lv_at hl 0 rfl) ?_
    refine lv_aload_n hx hb dX3_follow_36 rfl (lv_at hl 1 rfl) ?_
    refine va_get (D := D) (ci := 3) (v := .int (x9 - 500000)) (C := RX3) (T := TX3) (N := 9) hx hb hts hi3 hown hK hP 0 rfl rfl 2 (by decide) (hts (.fieldLink RX3 19 "GridInverter$Loop" "error" "I") (by decide +kernel)) (fun _ h9 => h9) rfl dX3_follow_37 ?_
    refine lv_aload_n hx hb dX3_follow_40 rfl (lv_at hl 1 rfl) ?_
    refine va_get (D := D) (ci := 3) (v := .int kp) (C := RX3) (T := TX3) (N := 9) hx hb hts hi3 hown hK hP 0 rfl rfl 3 (by decide) (hts (.fieldLink RX3 22 "GridInverter$Loop" "kp" "I") (by decide +kernel)) (fun _ h9 => h9) rfl dX3_follow_41 ?_
    refine lv_imul hx hb dX3_follow_44 ?_
    refine lv_sipush (v := 1000) hx hb dX3_follow_45 (by decide) ?_
    refine lv_idiv hx hb dX3_follow_48 (by decide) ?_
    refine lv_topi (fun x10 ex10 => ?_)
    refine lv_iadd hx hb dX3_follow_49 ?_
    refine lv_ldc hx hb hown (hts (.constant RX3 42 (1000000)) (by decide +kernel)) dX3_follow_50 ?_
    refine call_i (wr := [(h0, .inr (3, [.int la, .int lf, .int (x9 - 500000), .int kp, .int ki, .int to, .int lt, .int lk, .ref h1]))]) (k := 0) (n := 0) (run_S (As := [.int ((la + lf) + x10), .int 1000000]) (rest := [.ref h0]) ⟨hx, hb, hml, hown, hts⟩ (mJ9_floorMod_7cf53 l D cI cJ cZ cO ((la + lf) + x10) 1000000 (by decide) H.size) (va_cwS 2 hts gX3_follow_J9_floorMod_7cf53 rfl rfl rfl (by decide +kernel) ⟨Nat.le_of_ble_eq_true rfl, Nat.le_of_ble_eq_true rfl⟩) hK hN hP hD [] (by decide) rfl rfl rfl hl.1 (Nat.le_of_ble_eq_true rfl) dX3_follow_52 ⟨Nat.le_of_ble_eq_true rfl, Nat.le_of_ble_eq_true rfl⟩) hP hD hS hA [] [0] rfl rfl (by decide) (by decide) (Nat.le_of_ble_eq_true rfl) (Nat.le_of_ble_eq_true rfl) (fun H locs hP hD hS => ?_)
    have hP : va_P D vwCl [(h0, .inr (3, [.int la, .int lf, .int (x9 - 500000), .int kp, .int ki, .int to, .int lt, .int lk, .ref h1]))] H := hP
    have hD : va_D A [(h0, .inr (3, [.int la, .int lf, .int (x9 - 500000), .int kp, .int ki, .int to, .int lt, .int lk, .ref h1]))] := hD
    refine lv_topi (fun x11 ex11 => ?_)
    refine va_put (D := D) (ci := 3) (v := .int x11) (ty := .int) (C := RX3) (T := TX3) (N := 9) hx hb hts hi3 tyX3 tyX3_ok nmX3 hown hK hP hD hS 0 rfl rfl 0 (by decide) (hts (.fieldLink RX3 9 "GridInverter$Loop" "angle" "I") (by decide +kernel)) (fun _ h9 => h9) rfl (by decide +kernel) rfl rfl (Nat.le_of_ble_eq_true rfl) dX3_follow_55 (fun H locs hP hD hS => ?_)
    have hP : va_P D vwCl [(h0, .inr (3, [.int x11, .int lf, .int (x9 - 500000), .int kp, .int ki, .int to, .int lt, .int lk, .ref h1]))] H := hP
    have hD : va_D A [(h0, .inr (3, [.int x11, .int lf, .int (x9 - 500000), .int kp, .int ki, .int to, .int lt, .int lk, .ref h1]))] := hD
    refine lv_aload_n hx hb dX3_follow_58 rfl (lv_at hl 1 rfl) ?_
    refine lv_aload_n hx hb dX3_follow_59 rfl (lv_at hl 1 rfl) ?_
    refine va_get (D := D) (ci := 3) (v := .int lf) (C := RX3) (T := TX3) (N := 9) hx hb hts hi3 hown hK hP 0 rfl rfl 1 (by decide) (hts (.fieldLink RX3 16 "GridInverter$Loop" "frequency" "I") (by decide +kernel)) (fun _ h9 => h9) rfl dX3_follow_60 ?_
    refine lv_aload_n hx hb dX3_follow_63 rfl (lv_at hl 1 rfl) ?_
    refine va_get (D := D) (ci := 3) (v := .int (x9 - 500000)) (C := RX3) (T := TX3) (N := 9) hx hb hts hi3 hown hK hP 0 rfl rfl 2 (by decide) (hts (.fieldLink RX3 19 "GridInverter$Loop" "error" "I") (by decide +kernel)) (fun _ h9 => h9) rfl dX3_follow_64 ?_
    refine lv_aload_n hx hb dX3_follow_67 rfl (lv_at hl 1 rfl) ?_
    refine va_get (D := D) (ci := 3) (v := .int ki) (C := RX3) (T := TX3) (N := 9) hx hb hts hi3 hown hK hP 0 rfl rfl 4 (by decide) (hts (.fieldLink RX3 25 "GridInverter$Loop" "ki" "I") (by decide +kernel)) (fun _ h9 => h9) rfl dX3_follow_68 ?_
    refine lv_imul hx hb dX3_follow_71 ?_
    refine lv_sipush (v := 1000) hx hb dX3_follow_72 (by decide) ?_
    refine lv_idiv hx hb dX3_follow_75 (by decide) ?_
    refine lv_topi (fun x12 ex12 => ?_)
    refine lv_iadd hx hb dX3_follow_76 ?_
    refine call_i (wr := [(h0, .inr (3, [.int x11, .int lf, .int (x9 - 500000), .int kp, .int ki, .int to, .int lt, .int lk, .ref h1]))]) (k := 0) (n := 0) (run_SN (As := [.int (lf + x12)]) (rest := [.ref h0]) ⟨hx, hb, hml, hown, hts⟩ (mX6_limitedFrequency l D cI cJ cZ cO (lf + x12) H.size) ⟨va_cnB 1 hts ggX3_follow_X6_limitedFrequency rfl rfl rfl hN.2.2.2.2.2.2.2.1 (hts (.initialized RX6) (by decide +kernel)) (by decide +kernel) ⟨Nat.le_of_ble_eq_true rfl, Nat.le_of_ble_eq_true rfl⟩, (hts (.static yX6_limitedFrequency) (by decide +kernel))⟩ hK hN hP hD [] (by decide) rfl rfl rfl hl.1 (Nat.le_of_ble_eq_true rfl) dX3_follow_77 ⟨Nat.le_of_ble_eq_true rfl, Nat.le_of_ble_eq_true rfl⟩) hP hD hS hA [] [0] rfl rfl (by decide) (by decide) (Nat.le_of_ble_eq_true rfl) (Nat.le_of_ble_eq_true rfl) (fun H locs hP hD hS => ?_)
    have hP : va_P D vwCl [(h0, .inr (3, [.int x11, .int lf, .int (x9 - 500000), .int kp, .int ki, .int to, .int lt, .int lk, .ref h1]))] H := hP
    have hD : va_D A [(h0, .inr (3, [.int x11, .int lf, .int (x9 - 500000), .int kp, .int ki, .int to, .int lt, .int lk, .ref h1]))] := hD
    refine lv_topi (fun x13 ex13 => ?_)
    refine va_put (D := D) (ci := 3) (v := .int x13) (ty := .int) (C := RX3) (T := TX3) (N := 9) hx hb hts hi3 tyX3 tyX3_ok nmX3 hown hK hP hD hS 0 rfl rfl 1 (by decide) (hts (.fieldLink RX3 16 "GridInverter$Loop" "frequency" "I") (by decide +kernel)) (fun _ h9 => h9) rfl (by decide +kernel) rfl rfl (Nat.le_of_ble_eq_true rfl) dX3_follow_80 (fun H locs hP hD hS => ?_)
    have hP : va_P D vwCl [(h0, .inr (3, [.int x11, .int x13, .int (x9 - 500000), .int kp, .int ki, .int to, .int lt, .int lk, .ref h1]))] H := hP
    have hD : va_D A [(h0, .inr (3, [.int x11, .int x13, .int (x9 - 500000), .int kp, .int ki, .int to, .int lt, .int lk, .ref h1]))] := hD
    refine lv_aload_n hx hb dX3_follow_83 rfl (lv_at hl 1 rfl) ?_
    refine lv_aload_n hx hb dX3_follow_84 rfl (lv_at hl 1 rfl) ?_
    refine va_get (D := D) (ci := 3) (v := .int (x9 - 500000)) (C := RX3) (T := TX3) (N := 9) hx hb hts hi3 hown hK hP 0 rfl rfl 2 (by decide) (hts (.fieldLink RX3 19 "GridInverter$Loop" "error" "I") (by decide +kernel)) (fun _ h9 => h9) rfl dX3_follow_85 ?_
    refine lv_aload_n hx hb dX3_follow_88 rfl (lv_at hl 1 rfl) ?_
    refine va_get (D := D) (ci := 3) (v := .int to) (C := RX3) (T := TX3) (N := 9) hx hb hts hi3 hown hK hP 0 rfl rfl 5 (by decide) (hts (.fieldLink RX3 28 "GridInverter$Loop" "tolerance" "I") (by decide +kernel)) (fun _ h9 => h9) rfl dX3_follow_89 ?_
    refine lv_ineg hx hb dX3_follow_92 ?_
    refine lv_aload_n hx hb dX3_follow_93 rfl (lv_at hl 1 rfl) ?_
    refine va_get (D := D) (ci := 3) (v := .int to) (C := RX3) (T := TX3) (N := 9) hx hb hts hi3 hown hK hP 0 rfl rfl 5 (by decide) (hts (.fieldLink RX3 28 "GridInverter$Loop" "tolerance" "I") (by decide +kernel)) (fun _ h9 => h9) rfl dX3_follow_94 ?_
    refine call_i (wr := [(h0, .inr (3, [.int x11, .int x13, .int (x9 - 500000), .int kp, .int ki, .int to, .int lt, .int lk, .ref h1]))]) (k := 0) (n := 0) (run_SN (As := [.int (x9 - 500000), .int (-to), .int to]) (rest := [.ref h0]) ⟨hx, hb, hml, hown, hts⟩ (mX6_outside l D cI cJ cZ cO (x9 - 500000) (-to) to H.size) ⟨va_cnB 3 hts ggX3_follow_X6_outside rfl rfl rfl hN.2.2.2.2.2.2.2.2.1 (hts (.initialized RX6) (by decide +kernel)) (by decide +kernel) ⟨Nat.le_of_ble_eq_true rfl, Nat.le_of_ble_eq_true rfl⟩, (hts (.static yX6_outside) (by decide +kernel))⟩ hK hN hP hD [] (by decide) rfl rfl rfl hl.1 (Nat.le_of_ble_eq_true rfl) dX3_follow_97 ⟨Nat.le_of_ble_eq_true rfl, Nat.le_of_ble_eq_true rfl⟩) hP hD hS hA [] [0] rfl rfl (by decide) (by decide) (Nat.le_of_ble_eq_true rfl) (Nat.le_of_ble_eq_true rfl) (fun H locs hP hD hS => ?_)
    have hP : va_P D vwCl [(h0, .inr (3, [.int x11, .int x13, .int (x9 - 500000), .int kp, .int ki, .int to, .int lt, .int lk, .ref h1]))] H := hP
    have hD : va_D A [(h0, .inr (3, [.int x11, .int x13, .int (x9 - 500000), .int kp, .int ki, .int to, .int lt, .int lk, .ref h1]))] := hD
    refine lv_topi (fun x14 ex14 => ?_)
    have K113 : ∀ (y17 : Int32) (H : Heap) (locs : List Loc) (ls : Array Slot), y17 = (if (r_X6_outside ((r_J9_floorMod_7cf53 ((p0 - (la + lf)) + 500000) 1000000) - 500000) (-to) to) = 0 then (lk + 1) else 0 : Int32) → va_P D vwCl [(h0, .inr (3, [.int x11, .int x13, .int (x9 - 500000), .int kp, .int ki, .int to, .int lt, .int lk, .ref h1]))] H → va_D A [(h0, .inr (3, [.int x11, .int x13, .int (x9 - 500000), .int kp, .int ki, .int to, .int lt, .int lk, .ref h1]))] → va_S A s.heap H locs → lv_has ls 4 [(0, .ref h0), (1, .int p0), (2, .int p1), (3, .int (la + lf))] → W p l e ({ frames := 2, cells := 0, slots := 0, locals := 41 } : Room) s m args below meth c H locs 0 0 Q (F0 m 113 ls [.int y17, .ref h0]) := by
      intro y17 H locs ls ey17 hP hD hS hl
      refine va_put (D := D) (ci := 3) (v := .int y17) (ty := .int) (C := RX3) (T := TX3) (N := 9) hx hb hts hi3 tyX3 tyX3_ok nmX3 hown hK hP hD hS 0 rfl rfl 7 (by decide) (hts (.fieldLink RX3 34 "GridInverter$Loop" "lockCount" "I") (by decide +kernel)) (fun _ h9 => h9) rfl (by decide +kernel) rfl rfl (Nat.le_of_ble_eq_true rfl) dX3_follow_113 (fun H locs hP hD hS => ?_)
      have hP : va_P D vwCl [(h0, .inr (3, [.int x11, .int x13, .int (x9 - 500000), .int kp, .int ki, .int to, .int lt, .int y17, .ref h1]))] H := hP
      have hD : va_D A [(h0, .inr (3, [.int x11, .int x13, .int (x9 - 500000), .int kp, .int ki, .int to, .int lt, .int y17, .ref h1]))] := hD
      refine lv_goto (tgt := 139) hx hb dX3_follow_116 (by decide) ?_
      exact K139 _ _ _ _ _ _ _ (by subst ex8; subst ex9; subst ex10; subst ex11; subst ex12; subst ex13; subst ex14; subst ey17; first | with_reducible rfl | (simp only [if_neg c2]; done) | rfl) (by subst ex8; subst ex9; subst ex10; subst ex11; subst ex12; subst ex13; subst ex14; subst ey17; first | with_reducible rfl | (simp only [if_neg c2]; done) | rfl) (by subst ex8; subst ex9; subst ex10; subst ex11; subst ex12; subst ex13; subst ex14; subst ey17; first | with_reducible rfl | (simp only [if_neg c2]; done) | rfl) (by subst ex8; subst ex9; subst ex10; subst ex11; subst ex12; subst ex13; subst ex14; subst ey17; first | with_reducible rfl | (simp only [if_neg c2]; done) | rfl) (hP.sub [0] rfl) (hD.sub [0] (by decide) rfl) hS (lv_sub hl [0, 1, 2, 3] rfl)
    refine lv_if_eq (tgt := 107) hx hb dX3_follow_100 (by decide) (fun c16 => ?_) (fun c16 => ?_)
    · refine lv_aload_n hx hb dX3_follow_107 rfl (lv_at hl 1 rfl) ?_
      refine va_get (D := D) (ci := 3) (v := .int lk) (C := RX3) (T := TX3) (N := 9) hx hb hts hi3 hown hK hP 0 rfl rfl 7 (by decide) (hts (.fieldLink RX3 34 "GridInverter$Loop" "lockCount" "I") (by decide +kernel)) (fun _ h9 => h9) rfl dX3_follow_108 ?_
      refine lv_iconst (v := 1) hx hb dX3_follow_111 (by decide) ?_
      refine lv_iadd hx hb dX3_follow_112 ?_
      exact K113 _ _ _ _ (by subst ex8; subst ex9; subst ex10; subst ex11; subst ex12; subst ex13; subst ex14; first | with_reducible rfl | (simp only [if_pos c16]; done) | rfl) (hP.sub [0] rfl) (hD.sub [0] (by decide) rfl) hS (lv_sub hl [1, 2, 3, 0] rfl)
    · refine lv_iconst (v := 0) hx hb dX3_follow_103 (by decide) ?_
      refine lv_goto (tgt := 113) hx hb dX3_follow_104 (by decide) ?_
      exact K113 _ _ _ _ (by subst ex8; subst ex9; subst ex10; subst ex11; subst ex12; subst ex13; subst ex14; first | with_reducible rfl | (simp only [if_neg c16]; done) | rfl) (hP.sub [0] rfl) (hD.sub [0] (by decide) rfl) hS (lv_sub hl [1, 2, 3, 0] rfl)

def r_X3_holdsLock (lt : Int32) (lk : Int32) : Int32 := (if lk < lt then 0 else 1 : Int32)
set_option maxHeartbeats 4000000 in
set_option maxRecDepth 100000 in
theorem mX3_holdsLock (l : Launch) (D : va_G) (cI cJ cZ cO : ClassId) (h0 : Nat) (h1 : Nat) (la : Int32) (lf : Int32) (le : Int32) (kp : Int32) (ki : Int32) (to : Int32) (lt : Int32) (lk : Int32) : MI l yX3_holdsLock wsX3_holdsLock ({ frames := 0, cells := 0, slots := 0, locals := 0 } : Room) D (tysK cI cJ cZ cO) [.ref h0] [(h0, .inr (3, [.int la, .int lf, .int le, .int kp, .int ki, .int to, .int lt, .int lk, .ref h1]))] (r_X3_holdsLock lt lk) [(h0, .inr (3, [.int la, .int lf, .int le, .int kp, .int ki, .int to, .int lt, .int lk, .ref h1]))] := by
  refine MI.of (cc := cX3_holdsLock) (maxL := 1) (ret := .boolean) (by decide) rfl (Nat.le_of_ble_eq_true rfl) (by simp only [r_X3_holdsLock]; first | rfl | (repeat' split) <;> rfl) ?_
  intro p e s m args below meth c A Q ls H locs B hS hP hD hl hret
  obtain ⟨hx, hb, hml, hown, hts, hK, hN, hA, hlocks⟩ := B
  have hi3 : ∀ w ∈ u_ws RX3 TX3 9, w ∈ wsX3_holdsLock := by decide +kernel
  have hl : lv_has ls 1 [(0, .ref h0)] := hl
  refine lv_aload_n hx hb dX3_holdsLock_0 rfl (lv_at hl 0 rfl) ?_
  refine va_get (D := D) (ci := 3) (v := .int lk) (C := RX3) (T := TX3) (N := 9) hx hb hts hi3 hown hK hP 0 rfl rfl 7 (by decide) (hts (.fieldLink RX3 34 "GridInverter$Loop" "lockCount" "I") (by decide +kernel)) (fun _ h9 => h9) rfl dX3_holdsLock_1 ?_
  refine lv_aload_n hx hb dX3_holdsLock_4 rfl (lv_at hl 0 rfl) ?_
  refine va_get (D := D) (ci := 3) (v := .int lt) (C := RX3) (T := TX3) (N := 9) hx hb hts hi3 hown hK hP 0 rfl rfl 6 (by decide) (hts (.fieldLink RX3 31 "GridInverter$Loop" "lockTime" "I") (by decide +kernel)) (fun _ h9 => h9) rfl dX3_holdsLock_5 ?_
  have K16 : ∀ (y3 : Int32) (H : Heap) (locs : List Loc) (ls : Array Slot), y3 = (if lk < lt then 0 else 1 : Int32) → va_P D vwCl [(h0, .inr (3, [.int la, .int lf, .int le, .int kp, .int ki, .int to, .int lt, .int lk, .ref h1]))] H → va_D A [(h0, .inr (3, [.int la, .int lf, .int le, .int kp, .int ki, .int to, .int lt, .int lk, .ref h1]))] → va_S A s.heap H locs → lv_has ls 1 [(0, .ref h0)] → W p l e ({ frames := 0, cells := 0, slots := 0, locals := 0 } : Room) s m args below meth c H locs 0 0 Q (F0 m 16 ls [.int y3]) := by
    intro y3 H locs ls ey3 hP hD hS hl
    exact hret _ _ _ _ _ _ _ _ (by subst ey3; first | with_reducible rfl | (simp only [r_X3_holdsLock]; done) | rfl) (by subst ey3; first | with_reducible rfl | (simp only [r_X3_holdsLock]; done) | rfl) hP hD hS (Nat.le_of_ble_eq_true rfl) (Nat.le_of_ble_eq_true rfl) dX3_holdsLock_16
  refine lv_icmp_lt (tgt := 15) hx hb dX3_holdsLock_8 (by decide) (fun c2 => ?_) (fun c2 => ?_)
  · refine lv_iconst (v := 0) hx hb dX3_holdsLock_15 (by decide) ?_
    exact K16 _ _ _ _ (by first | with_reducible rfl | (simp only [if_pos c2]; done) | rfl) (hP.sub [0] rfl) (hD.sub [0] (by decide) rfl) hS (lv_sub hl [0] rfl)
  · refine lv_iconst (v := 1) hx hb dX3_holdsLock_11 (by decide) ?_
    refine lv_goto (tgt := 16) hx hb dX3_holdsLock_12 (by decide) ?_
    exact K16 _ _ _ _ (by first | with_reducible rfl | (simp only [if_neg c2]; done) | rfl) (hP.sub [0] rfl) (hD.sub [0] (by decide) rfl) hS (lv_sub hl [0] rfl)

def r_X0_leaveStop (mo : Int32) : Int32 := (if mo = 2 then 1 else 0 : Int32)
def v_h0_mode_X0_leaveStop (mo : Int32) : Int32 := (if mo = 2 then 0 else mo : Int32)
def v_h0_readyCount_X0_leaveStop (mo : Int32) (rc : Int32) : Int32 := (if mo = 2 then 0 else rc : Int32)
set_option maxHeartbeats 4000000 in
set_option maxRecDepth 100000 in
theorem mX0_leaveStop (l : Launch) (D : va_G) (cI cJ cZ cO : ClassId) (h0 : Nat) (mo : Int32) (po : Int32) (ra : Int32) (de : Int32) (rp : Int32) (rc : Int32) (lV : Int32) (hV : Int32) (lF : Int32) (hF : Int32) (sh : Int32) (ga : Int32) (en : Int64) (rt : Int32) : MI l yX0_leaveStop wsX0_leaveStop ({ frames := 0, cells := 0, slots := 0, locals := 0 } : Room) D (tysK cI cJ cZ cO) [.ref h0] [(h0, .inr (0, [.int mo, .int po, .int ra, .int de, .int rp, .int rc, .int lV, .int hV, .int lF, .int hF, .int sh, .int ga, .long en, .int rt]))] (r_X0_leaveStop mo) [(h0, .inr (0, [.int (v_h0_mode_X0_leaveStop mo), .int po, .int ra, .int de, .int rp, .int (v_h0_readyCount_X0_leaveStop mo rc), .int lV, .int hV, .int lF, .int hF, .int sh, .int ga, .long en, .int rt]))] := by
  refine MI.of (cc := cX0_leaveStop) (maxL := 1) (ret := .boolean) (by decide) rfl (Nat.le_of_ble_eq_true rfl) (by simp only [r_X0_leaveStop, v_h0_mode_X0_leaveStop, v_h0_readyCount_X0_leaveStop]; first | rfl | (repeat' split) <;> rfl) ?_
  intro p e s m args below meth c A Q ls H locs B hS hP hD hl hret
  obtain ⟨hx, hb, hml, hown, hts, hK, hN, hA, hlocks⟩ := B
  have hi0 : ∀ w ∈ u_ws RX0 TX0 14, w ∈ wsX0_leaveStop := by decide +kernel
  have hl : lv_has ls 1 [(0, .ref h0)] := hl
  refine lv_aload_n hx hb dX0_leaveStop_0 rfl (lv_at hl 0 rfl) ?_
  refine va_get (D := D) (ci := 0) (v := .int mo) (C := RX0) (T := TX0) (N := 14) hx hb hts hi0 hown hK hP 0 rfl rfl 0 (by decide) (hts (.fieldLink RX0 9 "GridInverter$Inverter" "mode" "I") (by decide +kernel)) (fun _ h9 => h9) rfl dX0_leaveStop_1 ?_
  refine lv_iconst (v := 2) hx hb dX0_leaveStop_4 (by decide) ?_
  refine lv_icmp_eq (tgt := 10) hx hb dX0_leaveStop_5 (by decide) (fun c2 => ?_) (fun c2 => ?_)
  · refine lv_aload_n hx hb dX0_leaveStop_10 rfl (lv_at hl 0 rfl) ?_
    refine lv_iconst (v := 0) hx hb dX0_leaveStop_11 (by decide) ?_
    refine va_put (D := D) (ci := 0) (v := .int 0) (ty := .int) (C := RX0) (T := TX0) (N := 14) hx hb hts hi0 tyX0 tyX0_ok nmX0 hown hK hP hD hS 0 rfl rfl 0 (by decide) (hts (.fieldLink RX0 9 "GridInverter$Inverter" "mode" "I") (by decide +kernel)) (fun _ h9 => h9) rfl (by decide +kernel) rfl rfl (Nat.le_of_ble_eq_true rfl) dX0_leaveStop_12 (fun H locs hP hD hS => ?_)
    have hP : va_P D vwCl [(h0, .inr (0, [.int 0, .int po, .int ra, .int de, .int rp, .int rc, .int lV, .int hV, .int lF, .int hF, .int sh, .int ga, .long en, .int rt]))] H := hP
    have hD : va_D A [(h0, .inr (0, [.int 0, .int po, .int ra, .int de, .int rp, .int rc, .int lV, .int hV, .int lF, .int hF, .int sh, .int ga, .long en, .int rt]))] := hD
    refine lv_aload_n hx hb dX0_leaveStop_15 rfl (lv_at hl 0 rfl) ?_
    refine lv_iconst (v := 0) hx hb dX0_leaveStop_16 (by decide) ?_
    refine va_put (D := D) (ci := 0) (v := .int 0) (ty := .int) (C := RX0) (T := TX0) (N := 14) hx hb hts hi0 tyX0 tyX0_ok nmX0 hown hK hP hD hS 0 rfl rfl 5 (by decide) (hts (.fieldLink RX0 27 "GridInverter$Inverter" "readyCount" "I") (by decide +kernel)) (fun _ h9 => h9) rfl (by decide +kernel) rfl rfl (Nat.le_of_ble_eq_true rfl) dX0_leaveStop_17 (fun H locs hP hD hS => ?_)
    have hP : va_P D vwCl [(h0, .inr (0, [.int 0, .int po, .int ra, .int de, .int rp, .int 0, .int lV, .int hV, .int lF, .int hF, .int sh, .int ga, .long en, .int rt]))] H := hP
    have hD : va_D A [(h0, .inr (0, [.int 0, .int po, .int ra, .int de, .int rp, .int 0, .int lV, .int hV, .int lF, .int hF, .int sh, .int ga, .long en, .int rt]))] := hD
    refine lv_iconst (v := 1) hx hb dX0_leaveStop_20 (by decide) ?_
    exact hret _ _ _ _ _ _ _ _ (by first | with_reducible rfl | (simp only [r_X0_leaveStop, v_h0_mode_X0_leaveStop, v_h0_readyCount_X0_leaveStop, if_pos c2]; done) | rfl) (by first | with_reducible rfl | (simp only [r_X0_leaveStop, v_h0_mode_X0_leaveStop, v_h0_readyCount_X0_leaveStop, if_pos c2]; done) | rfl) hP hD hS (Nat.le_of_ble_eq_true rfl) (Nat.le_of_ble_eq_true rfl) dX0_leaveStop_21
  · refine lv_iconst (v := 0) hx hb dX0_leaveStop_8 (by decide) ?_
    exact hret _ _ _ _ _ _ _ _ (by first | with_reducible rfl | (simp only [r_X0_leaveStop, v_h0_mode_X0_leaveStop, v_h0_readyCount_X0_leaveStop, if_neg c2]; done) | rfl) (by first | with_reducible rfl | (simp only [r_X0_leaveStop, v_h0_mode_X0_leaveStop, v_h0_readyCount_X0_leaveStop, if_neg c2]; done) | rfl) hP hD hS (Nat.le_of_ble_eq_true rfl) (Nat.le_of_ble_eq_true rfl) dX0_leaveStop_9

def r_X0_drifted (sh : Int32) (ga : Int32) (p0 : Int32) : Int32 := ((p0 + sh) + (((p0 - 50000) * ga) / 100))
set_option maxHeartbeats 4000000 in
set_option maxRecDepth 100000 in
theorem mX0_drifted (l : Launch) (D : va_G) (cI cJ cZ cO : ClassId) (h0 : Nat) (mo : Int32) (po : Int32) (ra : Int32) (de : Int32) (rp : Int32) (rc : Int32) (lV : Int32) (hV : Int32) (lF : Int32) (hF : Int32) (sh : Int32) (ga : Int32) (en : Int64) (rt : Int32) (p0 : Int32) : MI l yX0_drifted wsX0_drifted ({ frames := 0, cells := 0, slots := 0, locals := 0 } : Room) D (tysK cI cJ cZ cO) [.ref h0, .int p0] [(h0, .inr (0, [.int mo, .int po, .int ra, .int de, .int rp, .int rc, .int lV, .int hV, .int lF, .int hF, .int sh, .int ga, .long en, .int rt]))] (r_X0_drifted sh ga p0) [(h0, .inr (0, [.int mo, .int po, .int ra, .int de, .int rp, .int rc, .int lV, .int hV, .int lF, .int hF, .int sh, .int ga, .long en, .int rt]))] := by
  refine MI.of (cc := cX0_drifted) (maxL := 2) (ret := .int) (by decide) rfl (Nat.le_of_ble_eq_true rfl) rfl ?_
  intro p e s m args below meth c A Q ls H locs B hS hP hD hl hret
  obtain ⟨hx, hb, hml, hown, hts, hK, hN, hA, hlocks⟩ := B
  have hi0 : ∀ w ∈ u_ws RX0 TX0 14, w ∈ wsX0_drifted := by decide +kernel
  have hl : lv_has ls 2 [(0, .ref h0), (1, .int p0)] := hl
  refine lv_iload_n hx hb dX0_drifted_0 rfl (lv_at hl 1 rfl) ?_
  refine lv_aload_n hx hb dX0_drifted_1 rfl (lv_at hl 0 rfl) ?_
  refine va_get (D := D) (ci := 0) (v := .int sh) (C := RX0) (T := TX0) (N := 14) hx hb hts hi0 hown hK hP 0 rfl rfl 10 (by decide) (hts (.fieldLink RX0 44 "GridInverter$Inverter" "shift" "I") (by decide +kernel)) (fun _ h9 => h9) rfl dX0_drifted_2 ?_
  refine lv_iadd hx hb dX0_drifted_5 ?_
  refine lv_iload_n hx hb dX0_drifted_6 rfl (lv_at hl 1 rfl) ?_
  refine lv_ldc hx hb hown (hts (.constant RX0 57 (50000)) (by decide +kernel)) dX0_drifted_7 ?_
  refine lv_isub hx hb dX0_drifted_9 ?_
  refine lv_aload_n hx hb dX0_drifted_10 rfl (lv_at hl 0 rfl) ?_
  refine va_get (D := D) (ci := 0) (v := .int ga) (C := RX0) (T := TX0) (N := 14) hx hb hts hi0 hown hK hP 0 rfl rfl 11 (by decide) (hts (.fieldLink RX0 47 "GridInverter$Inverter" "gain" "I") (by decide +kernel)) (fun _ h9 => h9) rfl dX0_drifted_11 ?_
  refine lv_imul hx hb dX0_drifted_14 ?_
  refine lv_bipush (v := 100) hx hb dX0_drifted_15 (by decide) ?_
  refine lv_idiv hx hb dX0_drifted_17 (by decide) ?_
  refine lv_topi (fun x1 ex1 => ?_)
  refine lv_iadd hx hb dX0_drifted_18 ?_
  exact hret _ _ _ _ _ _ _ _ (by subst ex1; first | with_reducible rfl | (simp only [r_X0_drifted]; done) | rfl) (by subst ex1; first | with_reducible rfl | (simp only [r_X0_drifted]; done) | rfl) hP hD hS (Nat.le_of_ble_eq_true rfl) (Nat.le_of_ble_eq_true rfl) dX0_drifted_19

def r_X0_admits (lV : Int32) (hV : Int32) (lF : Int32) (hF : Int32) (p0 : Int32) (p1 : Int32) : Int32 := (if (r_X6_outside p0 lV hV) = 0 then (if (r_X6_outside p1 lF hF) = 0 then 1 else 0 : Int32) else 0 : Int32)
set_option maxHeartbeats 4000000 in
set_option maxRecDepth 100000 in
theorem mX0_admits (l : Launch) (D : va_G) (cI cJ cZ cO : ClassId) (h0 : Nat) (mo : Int32) (po : Int32) (ra : Int32) (de : Int32) (rp : Int32) (rc : Int32) (lV : Int32) (hV : Int32) (lF : Int32) (hF : Int32) (sh : Int32) (ga : Int32) (en : Int64) (rt : Int32) (p0 : Int32) (p1 : Int32) : MI l yX0_admits wsX0_admits ({ frames := 1, cells := 0, slots := 0, locals := 22 } : Room) D (tysK cI cJ cZ cO) [.ref h0, .int p0, .int p1] [(h0, .inr (0, [.int mo, .int po, .int ra, .int de, .int rp, .int rc, .int lV, .int hV, .int lF, .int hF, .int sh, .int ga, .long en, .int rt]))] (r_X0_admits lV hV lF hF p0 p1) [(h0, .inr (0, [.int mo, .int po, .int ra, .int de, .int rp, .int rc, .int lV, .int hV, .int lF, .int hF, .int sh, .int ga, .long en, .int rt]))] := by
  refine MI.of (cc := cX0_admits) (maxL := 3) (ret := .boolean) (by decide) rfl (Nat.le_of_ble_eq_true rfl) (by simp only [r_X0_admits]; first | rfl | (repeat' split) <;> rfl) ?_
  intro p e s m args below meth c A Q ls H locs B hS hP hD hl hret
  obtain ⟨hx, hb, hml, hown, hts, hK, hN, hA, hlocks⟩ := B
  have hi0 : ∀ w ∈ u_ws RX0 TX0 14, w ∈ wsX0_admits := by decide +kernel
  have hl : lv_has ls 3 [(0, .ref h0), (1, .int p0), (2, .int p1)] := hl
  refine lv_iload_n hx hb dX0_admits_0 rfl (lv_at hl 1 rfl) ?_
  refine lv_aload_n hx hb dX0_admits_1 rfl (lv_at hl 0 rfl) ?_
  refine va_get (D := D) (ci := 0) (v := .int lV) (C := RX0) (T := TX0) (N := 14) hx hb hts hi0 hown hK hP 0 rfl rfl 6 (by decide) (hts (.fieldLink RX0 30 "GridInverter$Inverter" "lowVoltage" "I") (by decide +kernel)) (fun _ h9 => h9) rfl dX0_admits_2 ?_
  refine lv_aload_n hx hb dX0_admits_5 rfl (lv_at hl 0 rfl) ?_
  refine va_get (D := D) (ci := 0) (v := .int hV) (C := RX0) (T := TX0) (N := 14) hx hb hts hi0 hown hK hP 0 rfl rfl 7 (by decide) (hts (.fieldLink RX0 33 "GridInverter$Inverter" "highVoltage" "I") (by decide +kernel)) (fun _ h9 => h9) rfl dX0_admits_6 ?_
  refine call_i (wr := [(h0, .inr (0, [.int mo, .int po, .int ra, .int de, .int rp, .int rc, .int lV, .int hV, .int lF, .int hF, .int sh, .int ga, .long en, .int rt]))]) (k := 0) (n := 0) (run_SN (As := [.int p0, .int lV, .int hV]) (rest := []) ⟨hx, hb, hml, hown, hts⟩ (mX6_outside l D cI cJ cZ cO p0 lV hV H.size) ⟨va_cnB 3 hts ggX0_admits_X6_outside rfl rfl rfl hN.2.2.2.2.2.2.2.2.2.1 (hts (.initialized RX6) (by decide +kernel)) (by decide +kernel) ⟨Nat.le_of_ble_eq_true rfl, Nat.le_of_ble_eq_true rfl⟩, (hts (.static yX6_outside) (by decide +kernel))⟩ hK hN hP hD [] (by decide) rfl rfl rfl hl.1 (Nat.le_of_ble_eq_true rfl) dX0_admits_9 ⟨Nat.le_of_ble_eq_true rfl, Nat.le_of_ble_eq_true rfl⟩) hP hD hS hA [] [0] rfl rfl (by decide) (by decide) (Nat.le_of_ble_eq_true rfl) (Nat.le_of_ble_eq_true rfl) (fun H locs hP hD hS => ?_)
  have hP : va_P D vwCl [(h0, .inr (0, [.int mo, .int po, .int ra, .int de, .int rp, .int rc, .int lV, .int hV, .int lF, .int hF, .int sh, .int ga, .long en, .int rt]))] H := hP
  have hD : va_D A [(h0, .inr (0, [.int mo, .int po, .int ra, .int de, .int rp, .int rc, .int lV, .int hV, .int lF, .int hF, .int sh, .int ga, .long en, .int rt]))] := hD
  have K35 : ∀ (y3 : Int32) (H : Heap) (locs : List Loc) (ls : Array Slot), y3 = (if (r_X6_outside p0 lV hV) = 0 then (if (r_X6_outside p1 lF hF) = 0 then 1 else 0 : Int32) else 0 : Int32) → va_P D vwCl [(h0, .inr (0, [.int mo, .int po, .int ra, .int de, .int rp, .int rc, .int lV, .int hV, .int lF, .int hF, .int sh, .int ga, .long en, .int rt]))] H → va_D A [(h0, .inr (0, [.int mo, .int po, .int ra, .int de, .int rp, .int rc, .int lV, .int hV, .int lF, .int hF, .int sh, .int ga, .long en, .int rt]))] → va_S A s.heap H locs → lv_has ls 3 [(0, .ref h0), (1, .int p0), (2, .int p1)] → W p l e ({ frames := 1, cells := 0, slots := 0, locals := 22 } : Room) s m args below meth c H locs 0 0 Q (F0 m 35 ls [.int y3]) := by
    intro y3 H locs ls ey3 hP hD hS hl
    exact hret _ _ _ _ _ _ _ _ (by subst ey3; first | with_reducible rfl | (simp only [r_X0_admits]; done) | rfl) (by subst ey3; first | with_reducible rfl | (simp only [r_X0_admits]; done) | rfl) hP hD hS (Nat.le_of_ble_eq_true rfl) (Nat.le_of_ble_eq_true rfl) dX0_admits_35
  refine lv_if_ne (tgt := 34) hx hb dX0_admits_12 (by decide) (fun c2 => ?_) (fun c2 => ?_)
  · refine lv_iconst (v := 0) hx hb dX0_admits_34 (by decide) ?_
    exact K35 _ _ _ _ (by first | with_reducible rfl | (simp only [if_neg c2]; done) | rfl) (hP.sub [0] rfl) (hD.sub [0] (by decide) rfl) hS (lv_sub hl [0, 1, 2] rfl)
  · refine lv_iload_n hx hb dX0_admits_15 rfl (lv_at hl 2 rfl) ?_
    refine lv_aload_n hx hb dX0_admits_16 rfl (lv_at hl 0 rfl) ?_
    refine va_get (D := D) (ci := 0) (v := .int lF) (C := RX0) (T := TX0) (N := 14) hx hb hts hi0 hown hK hP 0 rfl rfl 8 (by decide) (hts (.fieldLink RX0 37 "GridInverter$Inverter" "lowFrequency" "I") (by decide +kernel)) (fun _ h9 => h9) rfl dX0_admits_17 ?_
    refine lv_aload_n hx hb dX0_admits_20 rfl (lv_at hl 0 rfl) ?_
    refine va_get (D := D) (ci := 0) (v := .int hF) (C := RX0) (T := TX0) (N := 14) hx hb hts hi0 hown hK hP 0 rfl rfl 9 (by decide) (hts (.fieldLink RX0 41 "GridInverter$Inverter" "highFrequency" "I") (by decide +kernel)) (fun _ h9 => h9) rfl dX0_admits_21 ?_
    refine call_i (wr := [(h0, .inr (0, [.int mo, .int po, .int ra, .int de, .int rp, .int rc, .int lV, .int hV, .int lF, .int hF, .int sh, .int ga, .long en, .int rt]))]) (k := 0) (n := 0) (run_SN (As := [.int p1, .int lF, .int hF]) (rest := []) ⟨hx, hb, hml, hown, hts⟩ (mX6_outside l D cI cJ cZ cO p1 lF hF H.size) ⟨va_cnB 3 hts ggX0_admits_X6_outside rfl rfl rfl hN.2.2.2.2.2.2.2.2.2.1 (hts (.initialized RX6) (by decide +kernel)) (by decide +kernel) ⟨Nat.le_of_ble_eq_true rfl, Nat.le_of_ble_eq_true rfl⟩, (hts (.static yX6_outside) (by decide +kernel))⟩ hK hN hP hD [] (by decide) rfl rfl rfl hl.1 (Nat.le_of_ble_eq_true rfl) dX0_admits_24 ⟨Nat.le_of_ble_eq_true rfl, Nat.le_of_ble_eq_true rfl⟩) hP hD hS hA [] [0] rfl rfl (by decide) (by decide) (Nat.le_of_ble_eq_true rfl) (Nat.le_of_ble_eq_true rfl) (fun H locs hP hD hS => ?_)
    have hP : va_P D vwCl [(h0, .inr (0, [.int mo, .int po, .int ra, .int de, .int rp, .int rc, .int lV, .int hV, .int lF, .int hF, .int sh, .int ga, .long en, .int rt]))] H := hP
    have hD : va_D A [(h0, .inr (0, [.int mo, .int po, .int ra, .int de, .int rp, .int rc, .int lV, .int hV, .int lF, .int hF, .int sh, .int ga, .long en, .int rt]))] := hD
    refine lv_if_ne (tgt := 34) hx hb dX0_admits_27 (by decide) (fun c5 => ?_) (fun c5 => ?_)
    · refine lv_iconst (v := 0) hx hb dX0_admits_34 (by decide) ?_
      exact K35 _ _ _ _ (by first | with_reducible rfl | (simp only [if_pos c2, if_neg c5]; done) | rfl) (hP.sub [0] rfl) (hD.sub [0] (by decide) rfl) hS (lv_sub hl [0, 1, 2] rfl)
    · refine lv_iconst (v := 1) hx hb dX0_admits_30 (by decide) ?_
      refine lv_goto (tgt := 35) hx hb dX0_admits_31 (by decide) ?_
      exact K35 _ _ _ _ (by first | with_reducible rfl | (simp only [if_pos c2, if_pos c5]; done) | rfl) (hP.sub [0] rfl) (hD.sub [0] (by decide) rfl) hS (lv_sub hl [0, 1, 2] rfl)

def v_h0_power_X0_raisePower (po : Int32) (ra : Int32) (rp : Int32) : Int32 := (if ra < (po + rp) then ra else (po + rp) : Int32)
set_option maxHeartbeats 4000000 in
set_option maxRecDepth 100000 in
theorem mX0_raisePower (l : Launch) (D : va_G) (cI cJ cZ cO : ClassId) (h0 : Nat) (mo : Int32) (po : Int32) (ra : Int32) (de : Int32) (rp : Int32) (rc : Int32) (lV : Int32) (hV : Int32) (lF : Int32) (hF : Int32) (sh : Int32) (ga : Int32) (en : Int64) (rt : Int32) : MV l yX0_raisePower wsX0_raisePower ({ frames := 1, cells := 0, slots := 0, locals := 21 } : Room) D (tysK cI cJ cZ cO) [.ref h0] [(h0, .inr (0, [.int mo, .int po, .int ra, .int de, .int rp, .int rc, .int lV, .int hV, .int lF, .int hF, .int sh, .int ga, .long en, .int rt]))] (fun (_ : Unit) => [(h0, .inr (0, [.int mo, .int (v_h0_power_X0_raisePower po ra rp), .int ra, .int de, .int rp, .int rc, .int lV, .int hV, .int lF, .int hF, .int sh, .int ga, .long en, .int rt]))]) := by
  refine MV.of (cc := cX0_raisePower) (maxL := 1) (by decide) rfl (Nat.le_of_ble_eq_true rfl) ?_
  intro p e s m args below meth c A Q ls H locs B hin hS hP hD hl hret
  obtain ⟨hx, hb, hml, hown, hts, hK, hN, hA, hlocks⟩ := B
  have hi0 : ∀ w ∈ u_ws RX0 TX0 14, w ∈ wsX0_raisePower := by decide +kernel
  have hl : lv_has ls 1 [(0, .ref h0)] := hl
  refine lv_aload_n hx hb dX0_raisePower_0 rfl (lv_at hl 0 rfl) ?_
  refine lv_aload_n hx hb dX0_raisePower_1 rfl (lv_at hl 0 rfl) ?_
  refine va_get (D := D) (ci := 0) (v := .int po) (C := RX0) (T := TX0) (N := 14) hx hb hts hi0 hown hK hP 0 rfl rfl 1 (by decide) (hts (.fieldLink RX0 15 "GridInverter$Inverter" "power" "I") (by decide +kernel)) (fun _ h9 => h9) rfl dX0_raisePower_2 ?_
  refine lv_aload_n hx hb dX0_raisePower_5 rfl (lv_at hl 0 rfl) ?_
  refine va_get (D := D) (ci := 0) (v := .int rp) (C := RX0) (T := TX0) (N := 14) hx hb hts hi0 hown hK hP 0 rfl rfl 4 (by decide) (hts (.fieldLink RX0 24 "GridInverter$Inverter" "ramp" "I") (by decide +kernel)) (fun _ h9 => h9) rfl dX0_raisePower_6 ?_
  refine lv_iadd hx hb dX0_raisePower_9 ?_
  refine lv_aload_n hx hb dX0_raisePower_10 rfl (lv_at hl 0 rfl) ?_
  refine va_get (D := D) (ci := 0) (v := .int ra) (C := RX0) (T := TX0) (N := 14) hx hb hts hi0 hown hK hP 0 rfl rfl 2 (by decide) (hts (.fieldLink RX0 18 "GridInverter$Inverter" "rating" "I") (by decide +kernel)) (fun _ h9 => h9) rfl dX0_raisePower_11 ?_
  refine va_mmin hx hb (hml.trans hl.1.symm) hown (hts (.methodLink RX0 62 Lib.Math.min.name) (by decide +kernel)) (hts (.static Lib.Math.min.name) (by decide +kernel)) (hts (.initialized "java/lang/Math") (by decide +kernel)) (hts (.code Lib.Math.min.name Lib.Math.min.code 2 (some .int)) (by decide +kernel)) (Nat.le_of_ble_eq_true rfl) (Nat.le_of_ble_eq_true rfl) (Nat.le_of_ble_eq_true rfl) (Nat.le_of_ble_eq_true rfl) dX0_raisePower_14 ?_
  refine lv_topi (fun x1 ex1 => ?_)
  refine va_put (D := D) (ci := 0) (v := .int x1) (ty := .int) (C := RX0) (T := TX0) (N := 14) hx hb hts hi0 tyX0 tyX0_ok nmX0 hown hK hP hD hS 0 rfl rfl 1 (by decide) (hts (.fieldLink RX0 15 "GridInverter$Inverter" "power" "I") (by decide +kernel)) (fun _ h9 => h9) rfl (by decide +kernel) rfl rfl (Nat.le_of_ble_eq_true rfl) dX0_raisePower_17 (fun H locs hP hD hS => ?_)
  have hP : va_P D vwCl [(h0, .inr (0, [.int mo, .int x1, .int ra, .int de, .int rp, .int rc, .int lV, .int hV, .int lF, .int hF, .int sh, .int ga, .long en, .int rt]))] H := hP
  have hD : va_D A [(h0, .inr (0, [.int mo, .int x1, .int ra, .int de, .int rp, .int rc, .int lV, .int hV, .int lF, .int hF, .int sh, .int ga, .long en, .int rt]))] := hD
  exact hret () _ _ _ _ _ _ _ (by subst ex1; first | with_reducible rfl | (simp only [v_h0_power_X0_raisePower]; done) | rfl) hP hD hS (Nat.le_of_ble_eq_true rfl) (Nat.le_of_ble_eq_true rfl) dX0_raisePower_20

def v_h0_energy_X0_account (po : Int32) (en : Int64) : Int64 := (en + po.toInt64)
def v_h0_runningTicks_X0_account (mo : Int32) (rt : Int32) : Int32 := (if mo = 1 then (rt + 1) else rt : Int32)
set_option maxHeartbeats 4000000 in
set_option maxRecDepth 100000 in
theorem mX0_account (l : Launch) (D : va_G) (cI cJ cZ cO : ClassId) (h0 : Nat) (mo : Int32) (po : Int32) (ra : Int32) (de : Int32) (rp : Int32) (rc : Int32) (lV : Int32) (hV : Int32) (lF : Int32) (hF : Int32) (sh : Int32) (ga : Int32) (en : Int64) (rt : Int32) : MV l yX0_account wsX0_account ({ frames := 0, cells := 0, slots := 0, locals := 0 } : Room) D (tysK cI cJ cZ cO) [.ref h0] [(h0, .inr (0, [.int mo, .int po, .int ra, .int de, .int rp, .int rc, .int lV, .int hV, .int lF, .int hF, .int sh, .int ga, .long en, .int rt]))] (fun (_ : Unit) => [(h0, .inr (0, [.int mo, .int po, .int ra, .int de, .int rp, .int rc, .int lV, .int hV, .int lF, .int hF, .int sh, .int ga, .long (v_h0_energy_X0_account po en), .int (v_h0_runningTicks_X0_account mo rt)]))]) := by
  refine MV.of (cc := cX0_account) (maxL := 1) (by decide) rfl (Nat.le_of_ble_eq_true rfl) ?_
  intro p e s m args below meth c A Q ls H locs B hin hS hP hD hl hret
  obtain ⟨hx, hb, hml, hown, hts, hK, hN, hA, hlocks⟩ := B
  have hi0 : ∀ w ∈ u_ws RX0 TX0 14, w ∈ wsX0_account := by decide +kernel
  have hl : lv_has ls 1 [(0, .ref h0)] := hl
  refine lv_aload_n hx hb dX0_account_0 rfl (lv_at hl 0 rfl) ?_
  refine lv_dup hx hb dX0_account_1 rfl ?_
  refine va_get (D := D) (ci := 0) (v := .long en) (C := RX0) (T := TX0) (N := 14) hx hb hts hi0 hown hK hP 0 rfl rfl 12 (by decide) (hts (.fieldLink RX0 50 "GridInverter$Inverter" "energy" "J") (by decide +kernel)) (fun _ h9 => h9) rfl dX0_account_2 ?_
  refine lv_aload_n hx hb dX0_account_5 rfl (lv_at hl 0 rfl) ?_
  refine va_get (D := D) (ci := 0) (v := .int po) (C := RX0) (T := TX0) (N := 14) hx hb hts hi0 hown hK hP 0 rfl rfl 1 (by decide) (hts (.fieldLink RX0 15 "GridInverter$Inverter" "power" "I") (by decide +kernel)) (fun _ h9 => h9) rfl dX0_account_6 ?_
  refine lv_i2l hx hb dX0_account_9 rfl ?_
  refine lv_ladd hx hb dX0_account_10 ?_
  refine va_put (D := D) (ci := 0) (v := .long (en + po.toInt64)) (ty := .long) (C := RX0) (T := TX0) (N := 14) hx hb hts hi0 tyX0 tyX0_ok nmX0 hown hK hP hD hS 0 rfl rfl 12 (by decide) (hts (.fieldLink RX0 50 "GridInverter$Inverter" "energy" "J") (by decide +kernel)) (fun _ h9 => h9) rfl (by decide +kernel) rfl rfl (Nat.le_of_ble_eq_true rfl) dX0_account_11 (fun H locs hP hD hS => ?_)
  have hP : va_P D vwCl [(h0, .inr (0, [.int mo, .int po, .int ra, .int de, .int rp, .int rc, .int lV, .int hV, .int lF, .int hF, .int sh, .int ga, .long (en + po.toInt64), .int rt]))] H := hP
  have hD : va_D A [(h0, .inr (0, [.int mo, .int po, .int ra, .int de, .int rp, .int rc, .int lV, .int hV, .int lF, .int hF, .int sh, .int ga, .long (en + po.toInt64), .int rt]))] := hD
  refine lv_aload_n hx hb dX0_account_14 rfl (lv_at hl 0 rfl) ?_
  refine va_get (D := D) (ci := 0) (v := .int mo) (C := RX0) (T := TX0) (N := 14) hx hb hts hi0 hown hK hP 0 rfl rfl 0 (by decide) (hts (.fieldLink RX0 9 "GridInverter$Inverter" "mode" "I") (by decide +kernel)) (fun _ h9 => h9) rfl dX0_account_15 ?_
  refine lv_iconst (v := 1) hx hb dX0_account_18 (by decide) ?_
  have K32 : ∀ (y3 : Int32) (H : Heap) (locs : List Loc) (ls : Array Slot), y3 = (if mo = 1 then (rt + 1) else rt : Int32) → va_P D vwCl [(h0, .inr (0, [.int mo, .int po, .int ra, .int de, .int rp, .int rc, .int lV, .int hV, .int lF, .int hF, .int sh, .int ga, .long (en + po.toInt64), .int y3]))] H → va_D A [(h0, .inr (0, [.int mo, .int po, .int ra, .int de, .int rp, .int rc, .int lV, .int hV, .int lF, .int hF, .int sh, .int ga, .long (en + po.toInt64), .int y3]))] → va_S A s.heap H locs → lv_has ls 1 [(0, .ref h0)] → W p l e ({ frames := 0, cells := 0, slots := 0, locals := 0 } : Room) s m args below meth c H locs 0 0 Q (F0 m 32 ls []) := by
    intro y3 H locs ls ey3 hP hD hS hl
    exact hret () _ _ _ _ _ _ _ (by subst ey3; first | with_reducible rfl | (simp only [v_h0_energy_X0_account, v_h0_runningTicks_X0_account]; done) | rfl) hP hD hS (Nat.le_of_ble_eq_true rfl) (Nat.le_of_ble_eq_true rfl) dX0_account_32
  refine lv_icmp_ne (tgt := 32) hx hb dX0_account_19 (by decide) (fun c2 => ?_) (fun c2 => ?_)
  · exact K32 _ _ _ _ (by first | with_reducible rfl | (simp only [if_neg c2]; done) | rfl) (hP.sub [0] rfl) (hD.sub [0] (by decide) rfl) hS (lv_sub hl [0] rfl)
  · refine lv_aload_n hx hb dX0_account_22 rfl (lv_at hl 0 rfl) ?_
    refine lv_dup hx hb dX0_account_23 rfl ?_
    refine va_get (D := D) (ci := 0) (v := .int rt) (C := RX0) (T := TX0) (N := 14) hx hb hts hi0 hown hK hP 0 rfl rfl 13 (by decide) (hts (.fieldLink RX0 54 "GridInverter$Inverter" "runningTicks" "I") (by decide +kernel)) (fun _ h9 => h9) rfl dX0_account_24 ?_
    refine lv_iconst (v := 1) hx hb dX0_account_27 (by decide) ?_
    refine lv_iadd hx hb dX0_account_28 ?_
    refine va_put (D := D) (ci := 0) (v := .int (rt + 1)) (ty := .int) (C := RX0) (T := TX0) (N := 14) hx hb hts hi0 tyX0 tyX0_ok nmX0 hown hK hP hD hS 0 rfl rfl 13 (by decide) (hts (.fieldLink RX0 54 "GridInverter$Inverter" "runningTicks" "I") (by decide +kernel)) (fun _ h9 => h9) rfl (by decide +kernel) rfl rfl (Nat.le_of_ble_eq_true rfl) dX0_account_29 (fun H locs hP hD hS => ?_)
    have hP : va_P D vwCl [(h0, .inr (0, [.int mo, .int po, .int ra, .int de, .int rp, .int rc, .int lV, .int hV, .int lF, .int hF, .int sh, .int ga, .long (en + po.toInt64), .int (rt + 1)]))] H := hP
    have hD : va_D A [(h0, .inr (0, [.int mo, .int po, .int ra, .int de, .int rp, .int rc, .int lV, .int hV, .int lF, .int hF, .int sh, .int ga, .long (en + po.toInt64), .int (rt + 1)]))] := hD
    exact K32 _ _ _ _ (by first | with_reducible rfl | (simp only [if_pos c2]; done) | rfl) (hP.sub [0] rfl) (hD.sub [0] (by decide) rfl) hS (lv_sub hl [0] rfl)

def r_X4_isViolated (p0 : Int32) (p1 : Int32) (p2 : Int32) (p3 : Int32) (p4 : Int32) : Int32 := (if p0 = 0 then (if p1 ≤ p2 then 0 else 1 : Int32) else (if p0 = 1 then (if p2 ≤ p1 then 0 else 1 : Int32) else (if p0 = 2 then (if p1 ≤ p3 then 0 else 1 : Int32) else (if p0 = 3 then (if p3 ≤ p1 then 0 else 1 : Int32) else (if p4 ≤ p1 then 0 else 1 : Int32) : Int32) : Int32) : Int32) : Int32)
set_option maxHeartbeats 4000000 in
set_option maxRecDepth 100000 in
theorem mX4_isViolated (l : Launch) (D : va_G) (cI cJ cZ cO : ClassId) (p0 : Int32) (p1 : Int32) (p2 : Int32) (p3 : Int32) (p4 : Int32) : MI l yX4_isViolated wsX4_isViolated ({ frames := 0, cells := 0, slots := 0, locals := 0 } : Room) D (tysK cI cJ cZ cO) [.int p0, .int p1, .int p2, .int p3, .int p4] [] (r_X4_isViolated p0 p1 p2 p3 p4) [] := by
  refine MI.of (cc := cX4_isViolated) (maxL := 5) (ret := .boolean) (by decide) rfl (Nat.le_of_ble_eq_true rfl) (by simp only [r_X4_isViolated]; first | rfl | (repeat' split) <;> rfl) ?_
  intro p e s m args below meth c A Q ls H locs B hS hP hD hl hret
  obtain ⟨hx, hb, hml, hown, hts, hK, hN, hA, hlocks⟩ := B
  have hl : lv_has ls 5 [(0, .int p0), (1, .int p1), (2, .int p2), (3, .int p3), (4, .int p4)] := hl
  refine lv_iload_n hx hb dX4_isViolated_0 rfl (lv_at hl 0 rfl) ?_
  by_cases c1 : p0 = 0
  · refine lv_tableIn (tgt := 32) hx hb dX4_isViolated_1 (by rw [c1]; decide) (by rw [c1]; decide) (by rw [c1]; rfl) (by decide) ?_
    refine lv_iload_n hx hb dX4_isViolated_32 rfl (lv_at hl 2 rfl) ?_
    refine lv_iload_n hx hb dX4_isViolated_33 rfl (lv_at hl 1 rfl) ?_
    have K42 : ∀ (y4 : Int32) (H : Heap) (locs : List Loc) (ls : Array Slot), y4 = (if p1 ≤ p2 then 0 else 1 : Int32) → va_P D vwCl [] H → va_D A [] → va_S A s.heap H locs → lv_has ls 5 [(0, .int p0), (1, .int p1), (2, .int p2), (3, .int p3), (4, .int p4)] → W p l e ({ frames := 0, cells := 0, slots := 0, locals := 0 } : Room) s m args below meth c H locs 0 0 Q (F0 m 42 ls [.int y4]) := by
      intro y4 H locs ls ey4 hP hD hS hl
      exact hret _ _ _ _ _ _ _ _ (by subst ey4; first | with_reducible rfl | (simp only [r_X4_isViolated, if_pos c1]; done) | rfl) (by subst ey4; first | with_reducible rfl | (simp only [r_X4_isViolated, if_pos c1]; done) | rfl) hP hD hS (Nat.le_of_ble_eq_true rfl) (Nat.le_of_ble_eq_true rfl) dX4_isViolated_42
    refine lv_icmp_ge (tgt := 41) hx hb dX4_isViolated_34 (by decide) (fun c3 => ?_) (fun c3 => ?_)
    · refine lv_iconst (v := 0) hx hb dX4_isViolated_41 (by decide) ?_
      exact K42 _ _ _ _ (by first | with_reducible rfl | (simp only [if_pos c3]; done) | rfl) (hP.sub [] rfl) (hD.sub [] (by decide) rfl) hS (lv_sub hl [0, 1, 2, 3, 4] rfl)
    · refine lv_iconst (v := 1) hx hb dX4_isViolated_37 (by decide) ?_
      refine lv_goto (tgt := 42) hx hb dX4_isViolated_38 (by decide) ?_
      exact K42 _ _ _ _ (by first | with_reducible rfl | (simp only [if_neg c3]; done) | rfl) (hP.sub [] rfl) (hD.sub [] (by decide) rfl) hS (lv_sub hl [0, 1, 2, 3, 4] rfl)
  · by_cases c5 : p0 = 1
    · refine lv_tableIn (tgt := 43) hx hb dX4_isViolated_1 (by rw [c5]; decide) (by rw [c5]; decide) (by rw [c5]; rfl) (by decide) ?_
      refine lv_iload_n hx hb dX4_isViolated_43 rfl (lv_at hl 2 rfl) ?_
      refine lv_iload_n hx hb dX4_isViolated_44 rfl (lv_at hl 1 rfl) ?_
      have K53 : ∀ (y8 : Int32) (H : Heap) (locs : List Loc) (ls : Array Slot), y8 = (if p2 ≤ p1 then 0 else 1 : Int32) → va_P D vwCl [] H → va_D A [] → va_S A s.heap H locs → lv_has ls 5 [(0, .int p0), (1, .int p1), (2, .int p2), (3, .int p3), (4, .int p4)] → W p l e ({ frames := 0, cells := 0, slots := 0, locals := 0 } : Room) s m args below meth c H locs 0 0 Q (F0 m 53 ls [.int y8]) := by
        intro y8 H locs ls ey8 hP hD hS hl
        exact hret _ _ _ _ _ _ _ _ (by subst ey8; first | with_reducible rfl | (simp only [r_X4_isViolated, if_neg c1, if_pos c5]; done) | rfl) (by subst ey8; first | with_reducible rfl | (simp only [r_X4_isViolated, if_neg c1, if_pos c5]; done) | rfl) hP hD hS (Nat.le_of_ble_eq_true rfl) (Nat.le_of_ble_eq_true rfl) dX4_isViolated_53
      refine lv_icmp_le (tgt := 52) hx hb dX4_isViolated_45 (by decide) (fun c7 => ?_) (fun c7 => ?_)
      · refine lv_iconst (v := 0) hx hb dX4_isViolated_52 (by decide) ?_
        exact K53 _ _ _ _ (by first | with_reducible rfl | (simp only [if_pos c7]; done) | rfl) (hP.sub [] rfl) (hD.sub [] (by decide) rfl) hS (lv_sub hl [0, 1, 2, 3, 4] rfl)
      · refine lv_iconst (v := 1) hx hb dX4_isViolated_48 (by decide) ?_
        refine lv_goto (tgt := 53) hx hb dX4_isViolated_49 (by decide) ?_
        exact K53 _ _ _ _ (by first | with_reducible rfl | (simp only [if_neg c7]; done) | rfl) (hP.sub [] rfl) (hD.sub [] (by decide) rfl) hS (lv_sub hl [0, 1, 2, 3, 4] rfl)
    · by_cases c9 : p0 = 2
      · refine lv_tableIn (tgt := 54) hx hb dX4_isViolated_1 (by rw [c9]; decide) (by rw [c9]; decide) (by rw [c9]; rfl) (by decide) ?_
        refine lv_iload_n hx hb dX4_isViolated_54 rfl (lv_at hl 3 rfl) ?_
        refine lv_iload_n hx hb dX4_isViolated_55 rfl (lv_at hl 1 rfl) ?_
        have K64 : ∀ (y12 : Int32) (H : Heap) (locs : List Loc) (ls : Array Slot), y12 = (if p1 ≤ p3 then 0 else 1 : Int32) → va_P D vwCl [] H → va_D A [] → va_S A s.heap H locs → lv_has ls 5 [(0, .int p0), (1, .int p1), (2, .int p2), (3, .int p3), (4, .int p4)] → W p l e ({ frames := 0, cells := 0, slots := 0, locals := 0 } : Room) s m args below meth c H locs 0 0 Q (F0 m 64 ls [.int y12]) := by
          intro y12 H locs ls ey12 hP hD hS hl
          exact hret _ _ _ _ _ _ _ _ (by subst ey12; first | with_reducible rfl | (simp only [r_X4_isViolated, if_neg c1, if_neg c5, if_pos c9]; done) | rfl) (by subst ey12; first | with_reducible rfl | (simp only [r_X4_isViolated, if_neg c1, if_neg c5, if_pos c9]; done) | rfl) hP hD hS (Nat.le_of_ble_eq_true rfl) (Nat.le_of_ble_eq_true rfl) dX4_isViolated_64
        refine lv_icmp_ge (tgt := 63) hx hb dX4_isViolated_56 (by decide) (fun c11 => ?_) (fun c11 => ?_)
        · refine lv_iconst (v := 0) hx hb dX4_isViolated_63 (by decide) ?_
          exact K64 _ _ _ _ (by first | with_reducible rfl | (simp only [if_pos c11]; done) | rfl) (hP.sub [] rfl) (hD.sub [] (by decide) rfl) hS (lv_sub hl [0, 1, 2, 3, 4] rfl)
        · refine lv_iconst (v := 1) hx hb dX4_isViolated_59 (by decide) ?_
          refine lv_goto (tgt := 64) hx hb dX4_isViolated_60 (by decide) ?_
          exact K64 _ _ _ _ (by first | with_reducible rfl | (simp only [if_neg c11]; done) | rfl) (hP.sub [] rfl) (hD.sub [] (by decide) rfl) hS (lv_sub hl [0, 1, 2, 3, 4] rfl)
      · by_cases c13 : p0 = 3
        · refine lv_tableIn (tgt := 65) hx hb dX4_isViolated_1 (by rw [c13]; decide) (by rw [c13]; decide) (by rw [c13]; rfl) (by decide) ?_
          refine lv_iload_n hx hb dX4_isViolated_65 rfl (lv_at hl 3 rfl) ?_
          refine lv_iload_n hx hb dX4_isViolated_66 rfl (lv_at hl 1 rfl) ?_
          have K75 : ∀ (y16 : Int32) (H : Heap) (locs : List Loc) (ls : Array Slot), y16 = (if p3 ≤ p1 then 0 else 1 : Int32) → va_P D vwCl [] H → va_D A [] → va_S A s.heap H locs → lv_has ls 5 [(0, .int p0), (1, .int p1), (2, .int p2), (3, .int p3), (4, .int p4)] → W p l e ({ frames := 0, cells := 0, slots := 0, locals := 0 } : Room) s m args below meth c H locs 0 0 Q (F0 m 75 ls [.int y16]) := by
            intro y16 H locs ls ey16 hP hD hS hl
            exact hret _ _ _ _ _ _ _ _ (by subst ey16; first | with_reducible rfl | (simp only [r_X4_isViolated, if_neg c1, if_neg c5, if_neg c9, if_pos c13]; done) | rfl) (by subst ey16; first | with_reducible rfl | (simp only [r_X4_isViolated, if_neg c1, if_neg c5, if_neg c9, if_pos c13]; done) | rfl) hP hD hS (Nat.le_of_ble_eq_true rfl) (Nat.le_of_ble_eq_true rfl) dX4_isViolated_75
          refine lv_icmp_le (tgt := 74) hx hb dX4_isViolated_67 (by decide) (fun c15 => ?_) (fun c15 => ?_)
          · refine lv_iconst (v := 0) hx hb dX4_isViolated_74 (by decide) ?_
            exact K75 _ _ _ _ (by first | with_reducible rfl | (simp only [if_pos c15]; done) | rfl) (hP.sub [] rfl) (hD.sub [] (by decide) rfl) hS (lv_sub hl [0, 1, 2, 3, 4] rfl)
          · refine lv_iconst (v := 1) hx hb dX4_isViolated_70 (by decide) ?_
            refine lv_goto (tgt := 75) hx hb dX4_isViolated_71 (by decide) ?_
            exact K75 _ _ _ _ (by first | with_reducible rfl | (simp only [if_neg c15]; done) | rfl) (hP.sub [] rfl) (hD.sub [] (by decide) rfl) hS (lv_sub hl [0, 1, 2, 3, 4] rfl)
        · refine lv_tableOut (tgt := 76) hx hb dX4_isViolated_1 (by have z0 := i32_neK 0 c1 (Nat.le_of_ble_eq_true rfl); have z1 := i32_neK 1 c5 (Nat.le_of_ble_eq_true rfl); have z2 := i32_neK 2 c9 (Nat.le_of_ble_eq_true rfl); have z3 := i32_neK 3 c13 (Nat.le_of_ble_eq_true rfl); omega) (by decide) ?_
          refine lv_iload hx hb dX4_isViolated_76 (lv_at hl 4 rfl) ?_
          refine lv_iload_n hx hb dX4_isViolated_78 rfl (lv_at hl 1 rfl) ?_
          have K87 : ∀ (y19 : Int32) (H : Heap) (locs : List Loc) (ls : Array Slot), y19 = (if p4 ≤ p1 then 0 else 1 : Int32) → va_P D vwCl [] H → va_D A [] → va_S A s.heap H locs → lv_has ls 5 [(0, .int p0), (1, .int p1), (2, .int p2), (3, .int p3), (4, .int p4)] → W p l e ({ frames := 0, cells := 0, slots := 0, locals := 0 } : Room) s m args below meth c H locs 0 0 Q (F0 m 87 ls [.int y19]) := by
            intro y19 H locs ls ey19 hP hD hS hl
            exact hret _ _ _ _ _ _ _ _ (by subst ey19; first | with_reducible rfl | (simp only [r_X4_isViolated, if_neg c1, if_neg c5, if_neg c9, if_neg c13]; done) | rfl) (by subst ey19; first | with_reducible rfl | (simp only [r_X4_isViolated, if_neg c1, if_neg c5, if_neg c9, if_neg c13]; done) | rfl) hP hD hS (Nat.le_of_ble_eq_true rfl) (Nat.le_of_ble_eq_true rfl) dX4_isViolated_87
          refine lv_icmp_le (tgt := 86) hx hb dX4_isViolated_79 (by decide) (fun c18 => ?_) (fun c18 => ?_)
          · refine lv_iconst (v := 0) hx hb dX4_isViolated_86 (by decide) ?_
            exact K87 _ _ _ _ (by first | with_reducible rfl | (simp only [if_pos c18]; done) | rfl) (hP.sub [] rfl) (hD.sub [] (by decide) rfl) hS (lv_sub hl [0, 1, 2, 3, 4] rfl)
          · refine lv_iconst (v := 1) hx hb dX4_isViolated_82 (by decide) ?_
            refine lv_goto (tgt := 87) hx hb dX4_isViolated_83 (by decide) ?_
            exact K87 _ _ _ _ (by first | with_reducible rfl | (simp only [if_neg c18]; done) | rfl) (hP.sub [] rfl) (hD.sub [] (by decide) rfl) hS (lv_sub hl [0, 1, 2, 3, 4] rfl)

def r_X7_in (p0 : Int32) (p1 : Int32) (p2 : Int32) : Int32 := (if p0 < p1 then 0 else (if p2 < p0 then 0 else 1 : Int32) : Int32)
set_option maxHeartbeats 4000000 in
set_option maxRecDepth 100000 in
theorem mX7_in (l : Launch) (D : va_G) (cI cJ cZ cO : ClassId) (p0 : Int32) (p1 : Int32) (p2 : Int32) : MI l yX7_in wsX7_in ({ frames := 0, cells := 0, slots := 0, locals := 0 } : Room) D (tysK cI cJ cZ cO) [.int p0, .int p1, .int p2] [] (r_X7_in p0 p1 p2) [] := by
  refine MI.of (cc := cX7_in) (maxL := 3) (ret := .boolean) (by decide) rfl (Nat.le_of_ble_eq_true rfl) (by simp only [r_X7_in]; first | rfl | (repeat' split) <;> rfl) ?_
  intro p e s m args below meth c A Q ls H locs B hS hP hD hl hret
  obtain ⟨hx, hb, hml, hown, hts, hK, hN, hA, hlocks⟩ := B
  have hl : lv_has ls 3 [(0, .int p0), (1, .int p1), (2, .int p2)] := hl
  refine lv_iload_n hx hb dX7_in_0 rfl (lv_at hl 0 rfl) ?_
  refine lv_iload_n hx hb dX7_in_1 rfl (lv_at hl 1 rfl) ?_
  have K15 : ∀ (y3 : Int32) (H : Heap) (locs : List Loc) (ls : Array Slot), y3 = (if p0 < p1 then 0 else (if p2 < p0 then 0 else 1 : Int32) : Int32) → va_P D vwCl [] H → va_D A [] → va_S A s.heap H locs → lv_has ls 3 [(0, .int p0), (1, .int p1), (2, .int p2)] → W p l e ({ frames := 0, cells := 0, slots := 0, locals := 0 } : Room) s m args below meth c H locs 0 0 Q (F0 m 15 ls [.int y3]) := by
    intro y3 H locs ls ey3 hP hD hS hl
    exact hret _ _ _ _ _ _ _ _ (by subst ey3; first | with_reducible rfl | (simp only [r_X7_in]; done) | rfl) (by subst ey3; first | with_reducible rfl | (simp only [r_X7_in]; done) | rfl) hP hD hS (Nat.le_of_ble_eq_true rfl) (Nat.le_of_ble_eq_true rfl) dX7_in_15
  refine lv_icmp_lt (tgt := 14) hx hb dX7_in_2 (by decide) (fun c2 => ?_) (fun c2 => ?_)
  · refine lv_iconst (v := 0) hx hb dX7_in_14 (by decide) ?_
    exact K15 _ _ _ _ (by first | with_reducible rfl | (simp only [if_pos c2]; done) | rfl) (hP.sub [] rfl) (hD.sub [] (by decide) rfl) hS (lv_sub hl [0, 1, 2] rfl)
  · refine lv_iload_n hx hb dX7_in_5 rfl (lv_at hl 0 rfl) ?_
    refine lv_iload_n hx hb dX7_in_6 rfl (lv_at hl 2 rfl) ?_
    refine lv_icmp_gt (tgt := 14) hx hb dX7_in_7 (by decide) (fun c5 => ?_) (fun c5 => ?_)
    · refine lv_iconst (v := 0) hx hb dX7_in_14 (by decide) ?_
      exact K15 _ _ _ _ (by first | with_reducible rfl | (simp only [if_neg c2, if_pos c5]; done) | rfl) (hP.sub [] rfl) (hD.sub [] (by decide) rfl) hS (lv_sub hl [0, 1, 2] rfl)
    · refine lv_iconst (v := 1) hx hb dX7_in_10 (by decide) ?_
      refine lv_goto (tgt := 15) hx hb dX7_in_11 (by decide) ?_
      exact K15 _ _ _ _ (by first | with_reducible rfl | (simp only [if_neg c2, if_neg c5]; done) | rfl) (hP.sub [] rfl) (hD.sub [] (by decide) rfl) hS (lv_sub hl [0, 1, 2] rfl)

def r_X7_round (p0 : Int32) : Int32 := (if 0 ≤ (p0 - p0 / 1000000 * 1000000) then (p0 - p0 / 1000000 * 1000000) else ((p0 - p0 / 1000000 * 1000000) + 1000000) : Int32)
set_option maxHeartbeats 4000000 in
set_option maxRecDepth 100000 in
theorem mX7_round (l : Launch) (D : va_G) (cI cJ cZ cO : ClassId) (p0 : Int32) : MI l yX7_round wsX7_round ({ frames := 0, cells := 0, slots := 0, locals := 0 } : Room) D (tysK cI cJ cZ cO) [.int p0] [] (r_X7_round p0) [] := by
  refine MI.of (cc := cX7_round) (maxL := 2) (ret := .int) (by decide) rfl (Nat.le_of_ble_eq_true rfl) rfl ?_
  intro p e s m args below meth c A Q ls H locs B hS hP hD hl hret
  obtain ⟨hx, hb, hml, hown, hts, hK, hN, hA, hlocks⟩ := B
  have hl : lv_has ls 2 [(0, .int p0)] := hl
  refine lv_iload_n hx hb dX7_round_0 rfl (lv_at hl 0 rfl) ?_
  refine lv_ldc hx hb hown (hts (.constant RX7 34 (1000000)) (by decide +kernel)) dX7_round_1 ?_
  refine lv_irem hx hb dX7_round_3 (by decide) ?_
  refine lv_topi (fun x1 ex1 => ?_)
  refine lv_istore_n (lv' := [(1, .int x1), (0, .int p0)]) hx hb dX7_round_4 rfl hl (by decide) rfl (fun ls hl => ?_)
  refine lv_iload_n hx hb dX7_round_5 rfl (lv_at hl 0 rfl) ?_
  have K17 : ∀ (y4 : Int32) (H : Heap) (locs : List Loc) (ls : Array Slot), y4 = (if 0 ≤ (p0 - p0 / 1000000 * 1000000) then (p0 - p0 / 1000000 * 1000000) else ((p0 - p0 / 1000000 * 1000000) + 1000000) : Int32) → va_P D vwCl [] H → va_D A [] → va_S A s.heap H locs → lv_has ls 2 [(0, .int p0), (1, .int x1)] → W p l e ({ frames := 0, cells := 0, slots := 0, locals := 0 } : Room) s m args below meth c H locs 0 0 Q (F0 m 17 ls [.int y4]) := by
    intro y4 H locs ls ey4 hP hD hS hl
    exact hret _ _ _ _ _ _ _ _ (by subst ex1; subst ey4; first | with_reducible rfl | (simp only [r_X7_round]; done) | rfl) (by subst ex1; subst ey4; first | with_reducible rfl | (simp only [r_X7_round]; done) | rfl) hP hD hS (Nat.le_of_ble_eq_true rfl) (Nat.le_of_ble_eq_true rfl) dX7_round_17
  refine lv_if_ge (tgt := 16) hx hb dX7_round_6 (by decide) (fun c3 => ?_) (fun c3 => ?_)
  · refine lv_iload_n hx hb dX7_round_16 rfl (lv_at hl 0 rfl) ?_
    exact K17 _ _ _ _ (by subst ex1; first | with_reducible rfl | (simp only [if_pos c3]; done) | rfl) (hP.sub [] rfl) (hD.sub [] (by decide) rfl) hS (lv_sub hl [1, 0] rfl)
  · refine lv_iload_n hx hb dX7_round_9 rfl (lv_at hl 0 rfl) ?_
    refine lv_ldc hx hb hown (hts (.constant RX7 34 (1000000)) (by decide +kernel)) dX7_round_10 ?_
    refine lv_iadd hx hb dX7_round_12 ?_
    refine lv_goto (tgt := 17) hx hb dX7_round_13 (by decide) ?_
    exact K17 _ _ _ _ (by subst ex1; first | with_reducible rfl | (simp only [if_neg c3]; done) | rfl) (hP.sub [] rfl) (hD.sub [] (by decide) rfl) hS (lv_sub hl [1, 0] rfl)

def r_X7_limited (p0 : Int32) (p1 : Int32) (p2 : Int32) : Int32 := (if p1 ≤ p0 then (if p0 ≤ p2 then p0 else p2 : Int32) else p1 : Int32)
set_option maxHeartbeats 4000000 in
set_option maxRecDepth 100000 in
theorem mX7_limited (l : Launch) (D : va_G) (cI cJ cZ cO : ClassId) (p0 : Int32) (p1 : Int32) (p2 : Int32) : MI l yX7_limited wsX7_limited ({ frames := 0, cells := 0, slots := 0, locals := 0 } : Room) D (tysK cI cJ cZ cO) [.int p0, .int p1, .int p2] [] (r_X7_limited p0 p1 p2) [] := by
  refine MI.of (cc := cX7_limited) (maxL := 3) (ret := .int) (by decide) rfl (Nat.le_of_ble_eq_true rfl) rfl ?_
  intro p e s m args below meth c A Q ls H locs B hS hP hD hl hret
  obtain ⟨hx, hb, hml, hown, hts, hK, hN, hA, hlocks⟩ := B
  have hl : lv_has ls 3 [(0, .int p0), (1, .int p1), (2, .int p2)] := hl
  refine lv_iload_n hx hb dX7_limited_0 rfl (lv_at hl 0 rfl) ?_
  refine lv_iload_n hx hb dX7_limited_1 rfl (lv_at hl 1 rfl) ?_
  have K19 : ∀ (y3 : Int32) (H : Heap) (locs : List Loc) (ls : Array Slot), y3 = (if p1 ≤ p0 then (if p0 ≤ p2 then p0 else p2 : Int32) else p1 : Int32) → va_P D vwCl [] H → va_D A [] → va_S A s.heap H locs → lv_has ls 3 [(0, .int p0), (1, .int p1), (2, .int p2)] → W p l e ({ frames := 0, cells := 0, slots := 0, locals := 0 } : Room) s m args below meth c H locs 0 0 Q (F0 m 19 ls [.int y3]) := by
    intro y3 H locs ls ey3 hP hD hS hl
    exact hret _ _ _ _ _ _ _ _ (by subst ey3; first | with_reducible rfl | (simp only [r_X7_limited]; done) | rfl) (by subst ey3; first | with_reducible rfl | (simp only [r_X7_limited]; done) | rfl) hP hD hS (Nat.le_of_ble_eq_true rfl) (Nat.le_of_ble_eq_true rfl) dX7_limited_19
  refine lv_icmp_ge (tgt := 9) hx hb dX7_limited_2 (by decide) (fun c2 => ?_) (fun c2 => ?_)
  · refine lv_iload_n hx hb dX7_limited_9 rfl (lv_at hl 0 rfl) ?_
    refine lv_iload_n hx hb dX7_limited_10 rfl (lv_at hl 2 rfl) ?_
    refine lv_icmp_le (tgt := 18) hx hb dX7_limited_11 (by decide) (fun c5 => ?_) (fun c5 => ?_)
    · refine lv_iload_n hx hb dX7_limited_18 rfl (lv_at hl 0 rfl) ?_
      exact K19 _ _ _ _ (by first | with_reducible rfl | (simp only [if_pos c2, if_pos c5]; done) | rfl) (hP.sub [] rfl) (hD.sub [] (by decide) rfl) hS (lv_sub hl [0, 1, 2] rfl)
    · refine lv_iload_n hx hb dX7_limited_14 rfl (lv_at hl 2 rfl) ?_
      refine lv_goto (tgt := 19) hx hb dX7_limited_15 (by decide) ?_
      exact K19 _ _ _ _ (by first | with_reducible rfl | (simp only [if_pos c2, if_neg c5]; done) | rfl) (hP.sub [] rfl) (hD.sub [] (by decide) rfl) hS (lv_sub hl [0, 1, 2] rfl)
  · refine lv_iload_n hx hb dX7_limited_5 rfl (lv_at hl 1 rfl) ?_
    refine lv_goto (tgt := 19) hx hb dX7_limited_6 (by decide) ?_
    exact K19 _ _ _ _ (by first | with_reducible rfl | (simp only [if_neg c2]; done) | rfl) (hP.sub [] rfl) (hD.sub [] (by decide) rfl) hS (lv_sub hl [0, 1, 2] rfl)

def r_X2_isKept (es : Int32) (p0 : Int32) : Int32 := (if p0 < 0 then 0 else (if es ≤ p0 then 0 else (if p0 < (es - 40) then 0 else 1 : Int32) : Int32) : Int32)
set_option maxHeartbeats 4000000 in
set_option maxRecDepth 100000 in
theorem mX2_isKept (l : Launch) (D : va_G) (cI cJ cZ cO : ClassId) (h0 : Nat) (h1 : Nat) (h2 : Nat) (es : Int32) (p0 : Int32) : MI l yX2_isKept wsX2_isKept ({ frames := 0, cells := 0, slots := 0, locals := 0 } : Room) D (tysK cI cJ cZ cO) [.ref h0, .int p0] [(h0, .inr (2, [.int es, .ref h1, .ref h2]))] (r_X2_isKept es p0) [(h0, .inr (2, [.int es, .ref h1, .ref h2]))] := by
  refine MI.of (cc := cX2_isKept) (maxL := 2) (ret := .boolean) (by decide) rfl (Nat.le_of_ble_eq_true rfl) (by simp only [r_X2_isKept]; first | rfl | (repeat' split) <;> rfl) ?_
  intro p e s m args below meth c A Q ls H locs B hS hP hD hl hret
  obtain ⟨hx, hb, hml, hown, hts, hK, hN, hA, hlocks⟩ := B
  have hi2 : ∀ w ∈ u_ws RX2 TX2 3, w ∈ wsX2_isKept := by decide +kernel
  have hl : lv_has ls 2 [(0, .ref h0), (1, .int p0)] := hl
  refine lv_iload_n hx hb dX2_isKept_0 rfl (lv_at hl 1 rfl) ?_
  have K28 : ∀ (y3 : Int32) (H : Heap) (locs : List Loc) (ls : Array Slot), y3 = (if p0 < 0 then 0 else (if es ≤ p0 then 0 else (if p0 < (es - 40) then 0 else 1 : Int32) : Int32) : Int32) → va_P D vwCl [(h0, .inr (2, [.int es, .ref h1, .ref h2]))] H → va_D A [(h0, .inr (2, [.int es, .ref h1, .ref h2]))] → va_S A s.heap H locs → lv_has ls 2 [(0, .ref h0), (1, .int p0)] → W p l e ({ frames := 0, cells := 0, slots := 0, locals := 0 } : Room) s m args below meth c H locs 0 0 Q (F0 m 28 ls [.int y3]) := by
    intro y3 H locs ls ey3 hP hD hS hl
    exact hret _ _ _ _ _ _ _ _ (by subst ey3; first | with_reducible rfl | (simp only [r_X2_isKept]; done) | rfl) (by subst ey3; first | with_reducible rfl | (simp only [r_X2_isKept]; done) | rfl) hP hD hS (Nat.le_of_ble_eq_true rfl) (Nat.le_of_ble_eq_true rfl) dX2_isKept_28
  refine lv_if_lt (tgt := 27) hx hb dX2_isKept_1 (by decide) (fun c2 => ?_) (fun c2 => ?_)
  · refine lv_iconst (v := 0) hx hb dX2_isKept_27 (by decide) ?_
    exact K28 _ _ _ _ (by first | with_reducible rfl | (simp only [if_pos c2]; done) | rfl) (hP.sub [0] rfl) (hD.sub [0] (by decide) rfl) hS (lv_sub hl [0, 1] rfl)
  · refine lv_iload_n hx hb dX2_isKept_4 rfl (lv_at hl 1 rfl) ?_
    refine lv_aload_n hx hb dX2_isKept_5 rfl (lv_at hl 0 rfl) ?_
    refine va_get (D := D) (ci := 2) (v := .int es) (C := RX2) (T := TX2) (N := 3) hx hb hts hi2 hown hK hP 0 rfl rfl 0 (by decide) (hts (.fieldLink RX2 9 "GridInverter$Log" "size" "I") (by decide +kernel)) (fun _ h9 => h9) rfl dX2_isKept_6 ?_
    refine lv_icmp_ge (tgt := 27) hx hb dX2_isKept_9 (by decide) (fun c5 => ?_) (fun c5 => ?_)
    · refine lv_iconst (v := 0) hx hb dX2_isKept_27 (by decide) ?_
      exact K28 _ _ _ _ (by first | with_reducible rfl | (simp only [if_neg c2, if_pos c5]; done) | rfl) (hP.sub [0] rfl) (hD.sub [0] (by decide) rfl) hS (lv_sub hl [0, 1] rfl)
    · refine lv_iload_n hx hb dX2_isKept_12 rfl (lv_at hl 1 rfl) ?_
      refine lv_aload_n hx hb dX2_isKept_13 rfl (lv_at hl 0 rfl) ?_
      refine va_get (D := D) (ci := 2) (v := .int es) (C := RX2) (T := TX2) (N := 3) hx hb hts hi2 hown hK hP 0 rfl rfl 0 (by decide) (hts (.fieldLink RX2 9 "GridInverter$Log" "size" "I") (by decide +kernel)) (fun _ h9 => h9) rfl dX2_isKept_14 ?_
      refine lv_bipush (v := 40) hx hb dX2_isKept_17 (by decide) ?_
      refine lv_isub hx hb dX2_isKept_19 ?_
      refine lv_icmp_lt (tgt := 27) hx hb dX2_isKept_20 (by decide) (fun c7 => ?_) (fun c7 => ?_)
      · refine lv_iconst (v := 0) hx hb dX2_isKept_27 (by decide) ?_
        exact K28 _ _ _ _ (by first | with_reducible rfl | (simp only [if_neg c2, if_neg c5, if_pos c7]; done) | rfl) (hP.sub [0] rfl) (hD.sub [0] (by decide) rfl) hS (lv_sub hl [0, 1] rfl)
      · refine lv_iconst (v := 1) hx hb dX2_isKept_23 (by decide) ?_
        refine lv_goto (tgt := 28) hx hb dX2_isKept_24 (by decide) ?_
        exact K28 _ _ _ _ (by first | with_reducible rfl | (simp only [if_neg c2, if_neg c5, if_neg c7]; done) | rfl) (hP.sub [0] rfl) (hD.sub [0] (by decide) rfl) hS (lv_sub hl [0, 1] rfl)
