set_option maxHeartbeats 4000000 in
set_option maxRecDepth 100000 in
theorem mX7_availability (l : Launch) (D : va_G) (cI cJ cZ cO : ClassId) (h0 : Nat) (h1 : Nat) (h2 : Nat) (h3 : Nat) (h4 : Nat) (h5 : Nat) (me : Int64) (tw : Int32) (f : Nat → Int32) : MD l yX7_availability wsX7_availability ({ frames := 0, cells := 0, slots := 0, locals := 0 } : Room) D (tysK cI cJ cZ cO) [.ref h0] [(h0, .inr (7, [.ref h1, .long me, .ref h2, .ref h3, .ref h4, .ref h5, .int tw])), (h1, .inl (cI, 165, .inl f))] (fun r => (f 0 = 0 → r = FP.dconst0) ∧ (¬ f 0 = 0 → alike64 r (FP.ddiv (FP.i2d (f 31)) (FP.i2d (f 0))) = true)) [(h0, .inr (7, [.ref h1, .long me, .ref h2, .ref h3, .ref h4, .ref h5, .int 0])), (h1, .inl (cI, 165, .inl f))] := by
  refine MD.of (cc := cX7_availability) (maxL := 1) (by decide) rfl (Nat.le_of_ble_eq_true rfl) ?_
  intro p e s m args below meth c A Q ls H locs B hd0 hS hP hD hl hret
  obtain ⟨hx, hb, hml, hown, hts, hK, hN, hA, hlocks⟩ := B
  have hi7 : ∀ w ∈ u_ws RX7 TX7 7, w ∈ wsX7_availability := by decide +kernel
  have hts := dr_words hts s.drawn
  have hl : lv_has ls 1 [(0, .ref h0)] := hl
  refine lv_aload_n hx hb dX7_availability_0 rfl (lv_at hl 0 rfl) ?_
  refine lv_iconst (v := 0) hx hb dX7_availability_1 (by decide) ?_
  refine va_put (D := D) (ci := 7) (v := .int 0) (ty := .int) (C := RX7) (T := TX7) (N := 7) hx hb hts hi7 tyX7 tyX7_ok nmX7 hown hK hP hD hS 0 rfl rfl 6 (by decide) (hts (.fieldLink RX7 30 "GridInverterModel" "thrown" "I") (by decide +kernel)) (fun _ h9 => h9) rfl (by decide +kernel) rfl rfl (Nat.le_of_ble_eq_true rfl) dX7_availability_2 (fun H locs hP hD hS => ?_)
  have hP : va_P D vwCl [(h0, .inr (7, [.ref h1, .long me, .ref h2, .ref h3, .ref h4, .ref h5, .int 0])), (h1, .inl (cI, 165, .inl f))] H := hP
  have hD : va_D A [(h0, .inr (7, [.ref h1, .long me, .ref h2, .ref h3, .ref h4, .ref h5, .int 0])), (h1, .inl (cI, 165, .inl f))] := hD
  refine lv_aload_n hx hb dX7_availability_5 rfl (lv_at hl 0 rfl) ?_
  refine va_get (D := D) (ci := 7) (v := .ref h1) (C := RX7) (T := TX7) (N := 7) hx hb hts hi7 hown hK hP 0 rfl rfl 0 (by decide) (hts (.fieldLink RX7 7 "GridInverterModel" "at" "[I") (by decide +kernel)) (fun _ h9 => h9) rfl dX7_availability_6 ?_
  refine lv_iconst (v := 0) hx hb dX7_availability_9 (by decide) ?_
  refine r_ald hx hb hK hP 1 0 rfl rfl 0 rfl (Nat.le_of_ble_eq_true rfl) (Nat.le_of_ble_eq_true rfl) (v := (f 0)) rfl dX7_availability_10 ?_
  refine lv_if_ne (tgt := 18) hx hb dX7_availability_11 (by decide) (fun c2 => ?_) (fun c2 => ?_)
  · refine lv_aload_n hx hb dX7_availability_18 rfl (lv_at hl 0 rfl) ?_
    refine va_get (D := D) (ci := 7) (v := .ref h1) (C := RX7) (T := TX7) (N := 7) hx hb hts hi7 hown hK hP 0 rfl rfl 0 (by decide) (hts (.fieldLink RX7 7 "GridInverterModel" "at" "[I") (by decide +kernel)) (fun _ h9 => h9) rfl dX7_availability_19 ?_
    refine lv_bipush (v := 31) hx hb dX7_availability_22 (by decide) ?_
    refine r_ald hx hb hK hP 1 0 rfl rfl 31 rfl (Nat.le_of_ble_eq_true rfl) (Nat.le_of_ble_eq_true rfl) (v := (f 31)) rfl dX7_availability_24 ?_
    refine lv_i2d hx hb dX7_availability_25 ?_
    refine lv_aload_n hx hb dX7_availability_26 rfl (lv_at hl 0 rfl) ?_
    refine va_get (D := D) (ci := 7) (v := .ref h1) (C := RX7) (T := TX7) (N := 7) hx hb hts hi7 hown hK hP 0 rfl rfl 0 (by decide) (hts (.fieldLink RX7 7 "GridInverterModel" "at" "[I") (by decide +kernel)) (fun _ h9 => h9) rfl dX7_availability_27 ?_
    refine lv_iconst (v := 0) hx hb dX7_availability_30 (by decide) ?_
    refine r_ald hx hb hK hP 1 0 rfl rfl 0 rfl (Nat.le_of_ble_eq_true rfl) (Nat.le_of_ble_eq_true rfl) (v := (f 0)) rfl dX7_availability_31 ?_
    refine lv_i2d hx hb dX7_availability_32 ?_
    refine lv_ddiv_any hd0 lw_bits hx hb dX7_availability_33 (fun r9 d1 hal hd0 => ?_)
    exact hret r9 d1 _ _ _ _ _ _ _ hd0 (⟨fun h => absurd h c2, fun _ => hal⟩) rfl hP hD hS (Nat.le_of_ble_eq_true rfl) (Nat.le_of_ble_eq_true rfl) dX7_availability_34
  · refine lv_dconst0 hx hb dX7_availability_14 ?_
    refine lv_goto (tgt := 34) hx hb dX7_availability_15 (by decide) ?_
    exact hret FP.dconst0 s.drawn _ _ _ _ _ _ _ hd0 (⟨fun _ => rfl, fun h => absurd c2 h⟩) rfl hP hD hS (Nat.le_of_ble_eq_true rfl) (Nat.le_of_ble_eq_true rfl) dX7_availability_34

set_option maxHeartbeats 4000000 in
set_option maxRecDepth 100000 in
theorem mX6_availability (l : Launch) (D : va_G) (cI cJ cZ cO : ClassId) (g0 : Nat) (k0 : Nat) (s0 : Nat) (h0 : Nat) (h1 : Nat) (h2 : Nat) (h3 : Nat) (h4 : Nat) (h5 : Nat) (h6 : Nat) (h7 : Nat) (h8 : Nat) (h9 : Nat) (h10 : Nat) (h11 : Nat) (h12 : Nat) (f : Nat → Int32) (cf : Nat → Int32) (en : Int64) (t : Nat) (ht : f 0 = nI t) (ht2 : t < 2147483648) : MD l yX6_availability wsX6_availability ({ frames := 0, cells := 0, slots := 0, locals := 0 } : Room) D (tysK cI cJ cZ cO) [.ref g0] [(g0, .inr (6, [.ref h0, .ref k0, .ref s0])), (h0, .inr (5, [.int (f 0), .ref h1, .ref h2, .ref h3, .ref h4, .ref h5])), (h1, .inr (1, [.int (f 1), .int (f 2), .int (f 3), .int (f 10), .int (f 11), .int (f 12), .int (f 13), .int (f 14), .int (f 15)])), (h2, .inr (3, [.int (f 4), .int (f 5), .int (f 6), .int (f 16), .int (f 17), .int (f 18), .int (f 19), .int (f 7), .ref h6])), (h3, .inr (0, [.int (f 20), .int (f 9), .int (f 21), .int (f 22), .int (f 23), .int (f 8), .int (f 24), .int (f 25), .int (f 26), .int (f 27), .int (f 28), .int (f 29), .long en, .int (f 31)])), (h4, .inr (4, [.int (f 30), .ref h7, .ref h8, .ref h9, .ref h10])), (h5, .inr (2, [.int (f 32), .ref h11, .ref h12])), (h6, .inl (cI, 20, .inl (fun k => f (33 + k)))), (h7, .inl (cI, 8, .inl (fun k => f (53 + k)))), (h8, .inl (cI, 8, .inl (fun k => f (61 + k)))), (h9, .inl (cI, 8, .inl (fun k => f (69 + k)))), (h10, .inl (cI, 8, .inl cf)), (h11, .inl (cI, 40, .inl (fun k => f (85 + k)))), (h12, .inl (cI, 40, .inl (fun k => f (125 + k))))] (fun r => (f 0 = 0 → r = FP.dconst0) ∧ (¬ f 0 = 0 → alike64 r (FP.ddiv (FP.i2d (f 31)) (FP.i2d (f 0))) = true)) [(g0, .inr (6, [.ref h0, .ref k0, .ref s0])), (h0, .inr (5, [.int (f 0), .ref h1, .ref h2, .ref h3, .ref h4, .ref h5])), (h1, .inr (1, [.int (f 1), .int (f 2), .int (f 3), .int (f 10), .int (f 11), .int (f 12), .int (f 13), .int (f 14), .int (f 15)])), (h2, .inr (3, [.int (f 4), .int (f 5), .int (f 6), .int (f 16), .int (f 17), .int (f 18), .int (f 19), .int (f 7), .ref h6])), (h3, .inr (0, [.int (f 20), .int (f 9), .int (f 21), .int (f 22), .int (f 23), .int (f 8), .int (f 24), .int (f 25), .int (f 26), .int (f 27), .int (f 28), .int (f 29), .long en, .int (f 31)])), (h4, .inr (4, [.int (f 30), .ref h7, .ref h8, .ref h9, .ref h10])), (h5, .inr (2, [.int (f 32), .ref h11, .ref h12])), (h6, .inl (cI, 20, .inl (fun k => f (33 + k)))), (h7, .inl (cI, 8, .inl (fun k => f (53 + k)))), (h8, .inl (cI, 8, .inl (fun k => f (61 + k)))), (h9, .inl (cI, 8, .inl (fun k => f (69 + k)))), (h10, .inl (cI, 8, .inl cf)), (h11, .inl (cI, 40, .inl (fun k => f (85 + k)))), (h12, .inl (cI, 40, .inl (fun k => f (125 + k))))] := by
  refine MD.of (cc := cX6_availability) (maxL := 2) (by decide) rfl (Nat.le_of_ble_eq_true rfl) ?_
  intro p e s m args below meth c A Q ls H locs B hd0 hS hP hD hl hret
  obtain ⟨hx, hb, hml, hown, hts, hK, hN, hA, hlocks⟩ := B
  have hi0 : ∀ w ∈ u_ws RX0 TX0 14, w ∈ wsX6_availability := by decide +kernel
  have hi5 : ∀ w ∈ u_ws RX5 TX5 6, w ∈ wsX6_availability := by decide +kernel
  have hi6 : ∀ w ∈ u_ws RX6 TX6 3, w ∈ wsX6_availability := by decide +kernel
  have hts := dr_words hts s.drawn
  have hl : lv_has ls 2 [(0, .ref g0)] := hl
  refine lv_aload_n hx hb dX6_availability_0 rfl (lv_at hl 0 rfl) ?_
  refine va_get (D := D) (ci := 6) (v := .ref h0) (C := RX6) (T := TX6) (N := 3) hx hb hts hi6 hown hK hP 0 rfl rfl 0 (by decide) (hts (.fieldLink RX6 10 "GridInverter" "present" "LGridInverter$Simulation;") (by decide +kernel)) (fun _ h9 => h9) rfl dX6_availability_1 ?_
  refine va_get (D := D) (ci := 5) (v := .int (f 0)) (C := RX5) (T := TX5) (N := 6) hx hb hts hi5 hown hK hP 1 rfl rfl 0 (by decide) (hts (.fieldLink RX6 169 "GridInverter$Simulation" "time" "I") (by decide +kernel)) (fun _ h9 => h9) rfl dX6_availability_4 ?_
  refine lv_istore_n (lv' := [(1, .int (f 0)), (0, .ref g0)]) hx hb dX6_availability_7 rfl hl (by decide) rfl (fun ls hl => ?_)
  refine lv_iload_n hx hb dX6_availability_8 rfl (lv_at hl 0 rfl) ?_
  refine lv_if_le (tgt := 29) hx hb dX6_availability_9 (by decide) (fun c2 => ?_) (fun c2 => ?_)
  · refine lv_dconst0 hx hb dX6_availability_29 ?_
    exact hret FP.dconst0 s.drawn _ _ _ _ _ _ _ hd0 (⟨fun _ => rfl, fun h => absurd (av_le ht ht2 c2) h⟩) rfl hP hD hS (Nat.le_of_ble_eq_true rfl) (Nat.le_of_ble_eq_true rfl) dX6_availability_30
  · refine lv_aload_n hx hb dX6_availability_12 rfl (lv_at hl 1 rfl) ?_
    refine va_get (D := D) (ci := 6) (v := .ref h0) (C := RX6) (T := TX6) (N := 3) hx hb hts hi6 hown hK hP 0 rfl rfl 0 (by decide) (hts (.fieldLink RX6 10 "GridInverter" "present" "LGridInverter$Simulation;") (by decide +kernel)) (fun _ h9 => h9) rfl dX6_availability_13 ?_
    refine va_get (D := D) (ci := 5) (v := .ref h3) (C := RX5) (T := TX5) (N := 6) hx hb hts hi5 hown hK hP 1 rfl rfl 3 (by decide) (hts (.fieldLink RX6 100 "GridInverter$Simulation" "inverter" "LGridInverter$Inverter;") (by decide +kernel)) (fun _ h9 => h9) rfl dX6_availability_16 ?_
    refine va_get (D := D) (ci := 0) (v := .int (f 31)) (C := RX0) (T := TX0) (N := 14) hx hb hts hi0 hown hK hP 4 rfl rfl 13 (by decide) (hts (.fieldLink RX6 213 "GridInverter$Inverter" "runningTicks" "I") (by decide +kernel)) (fun _ h9 => h9) rfl dX6_availability_19 ?_
    refine lv_i2d hx hb dX6_availability_22 ?_
    refine lv_iload_n hx hb dX6_availability_23 rfl (lv_at hl 0 rfl) ?_
    refine lv_i2d hx hb dX6_availability_24 ?_
    refine lv_ddiv_any hd0 lw_bits hx hb dX6_availability_25 (fun r9 d1 hal hd0 => ?_)
    refine lv_goto (tgt := 30) hx hb dX6_availability_26 (by decide) ?_
    exact hret r9 d1 _ _ _ _ _ _ _ hd0 (⟨fun h => absurd h (av_gt c2), fun _ => hal⟩) rfl hP hD hS (Nat.le_of_ble_eq_true rfl) (Nat.le_of_ble_eq_true rfl) dX6_availability_30
