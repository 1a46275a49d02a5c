def a_h1_X7_run (f : Nat → Int32) (t : Nat) (z : Nat) (q : Nat) : Nat → Int32 := (if (r_X7_hasLock f) = 0 then (a_h1_X7_trip f 101 q) else (if (fdR f t z z) = (-1) then (upd (rnC f t z z) 9 (r_X7_limited (((rnC f t z z) 9) + ((rnC f t z z) 23)) 0 ((rnC f t z z) 21))) else (a_h1_X7_trip (rnC f t z z) (fdR f t z z) q) : Nat → Int32) : Nat → Int32)
set_option maxHeartbeats 4000000 in
set_option maxRecDepth 100000 in
theorem mX7_run (l : Launch) (D : va_G) (cI cJ cZ cO : ClassId) (h0 : Nat) (h1 : Nat) (h2 : Nat) (h3 : Nat) (h4 : Nat) (h5 : Nat) (me : Int64) (tw : Int32) (f : Nat → Int32) (t : Nat) (z : Nat) (q : Nat) (ht : f 0 = nI t) (ht2 : t < 2147483648) (hz : f 30 = nI z) (hz8 : z ≤ 8) (hq : f 32 = nI q) (hq2 : q < 2147483648) : MV l yX7_run wsX7_run ({ frames := 2, cells := 0, slots := 0, locals := 42 } : Room) D (tysK cI cJ cZ cO) [.ref h0] [(h0, .inr (7, [.ref h1, .long me, .ref h2, .ref h3, .ref h4, .ref h5, .int tw])), (h1, .inl (cI, 165, .inl f))] (fun (_ : Unit) => [(h0, .inr (7, [.ref h1, .long me, .ref h2, .ref h3, .ref h4, .ref h5, .int tw])), (h1, .inl (cI, 165, .inl (a_h1_X7_run f t z q)))]) := by
  refine MV.of (cc := cX7_run) (maxL := 3) (by decide) rfl (Nat.le_of_ble_eq_true rfl) ?_
  intro p e s m args below meth c A Q ls H locs B hin hS hP hD hl hret
  obtain ⟨hx, hb, hml, hown, hts, hK, hN, hA, hlocks⟩ := B
  have hi7 : ∀ w ∈ u_ws RX7 TX7 7, w ∈ wsX7_run := by decide +kernel
  have hl : lv_has ls 3 [(0, .ref h0)] := hl
  refine lv_aload_n hx hb dX7_run_0 rfl (lv_at hl 0 rfl) ?_
  refine call_i (wr := []) (k := 0) (n := 0) (run_V (As := []) (rest := []) ⟨hx, hb, hml, hown, hts⟩ (mX7_hasLock l D cI cJ cZ cO h0 h1 h2 h3 h4 h5 me tw f H.size) (cwV 0 hts gX7_run_X7_hasLock rfl rfl rfl (by decide +kernel) ⟨Nat.le_of_ble_eq_true rfl, Nat.le_of_ble_eq_true rfl⟩) hK hN hP hD [0, 1] (by decide) rfl 7 0 rfl rfl rfl rfl rfl hl.1 (Nat.le_of_ble_eq_true rfl) dX7_run_1 ⟨Nat.le_of_ble_eq_true rfl, Nat.le_of_ble_eq_true rfl⟩) hP hD hS hA [0, 1] [] rfl rfl (by decide) (by decide) (Nat.le_of_ble_eq_true rfl) (Nat.le_of_ble_eq_true rfl) (fun H locs hP hD hS => ?_)
  have hP : va_P D vwCl [(h0, .inr (7, [.ref h1, .long me, .ref h2, .ref h3, .ref h4, .ref h5, .int tw])), (h1, .inl (cI, 165, .inl f))] H := hP
  have hD : va_D A [(h0, .inr (7, [.ref h1, .long me, .ref h2, .ref h3, .ref h4, .ref h5, .int tw])), (h1, .inl (cI, 165, .inl f))] := hD
  refine lv_if_ne (tgt := 14) hx hb dX7_run_4 (by decide) (fun c2 => ?_) (fun c2 => ?_)
  · refine lv_iconst (v := (-1)) hx hb dX7_run_14 (by decide) ?_
    refine lv_istore_n (lv' := [(1, .int (-1)), (0, .ref h0)]) hx hb dX7_run_15 rfl hl (by decide) rfl (fun ls hl => ?_)
    refine lv_aload_n hx hb dX7_run_16 rfl (lv_at hl 1 rfl) ?_
    refine va_get (D := D) (ci := 7) (v := .ref h1) (C := RX7) (T := TX7) (N := 7) hx hb hts hi7 hown hK hP 0 rfl rfl 0 (by decide) (hts (.fieldLink RX7 7 "GridInverterModel" "at" "[I") (by decide +kernel)) (fun _ h9 => h9) rfl dX7_run_17 ?_
    refine lv_bipush (v := 30) hx hb dX7_run_20 (by decide) ?_
    refine r_ald hx hb hK hP 1 0 rfl rfl 30 rfl (Nat.le_of_ble_eq_true rfl) (Nat.le_of_ble_eq_true rfl) (v := (f 30)) rfl dX7_run_22 ?_
    refine lv_iconst (v := 1) hx hb dX7_run_23 (by decide) ?_
    refine lv_isub hx hb dX7_run_24 ?_
    refine lv_istore_n (lv' := [(2, .int ((f 30) - 1)), (1, .int (-1)), (0, .ref h0)]) hx hb dX7_run_25 rfl hl (by decide) rfl (fun ls hl => ?_)
    have L26 : ∀ (n i : Nat) (H : Heap) (locs : List Loc) (ls : Array Slot), i ≤ z → z + 1 ≤ i + n → va_P D vwCl [(h0, .inr (7, [.ref h1, .long me, .ref h2, .ref h3, .ref h4, .ref h5, .int tw])), (h1, .inl (cI, 165, .inl (rnC f t z i)))] H → va_D A [(h0, .inr (7, [.ref h1, .long me, .ref h2, .ref h3, .ref h4, .ref h5, .int tw])), (h1, .inl (cI, 165, .inl (rnC f t z i)))] → va_S A s.heap H locs → lv_has ls 3 [(0, .ref h0), (1, .int (fdR f t z i)), (2, .int (dn (z - i)))] → W p l e ({ frames := 2, cells := 0, slots := 0, locals := 42 } : Room) s m args below meth c H locs 0 0 Q (F0 m 26 ls []) := by
      intro n
      induction n with
      | zero => intro i H locs ls hi hin; exact absurd hin (by omega)
      | succ n ih =>
        intro i H locs ls hi hin hP hD hS hl
        refine lv_iload_n hx hb dX7_run_26 rfl (lv_at hl 2 rfl) ?_
        refine lv_if_lt (tgt := 95) hx hb dX7_run_27 (by decide) (fun c3 => ?_) (fun c3 => ?_)
        · have hiN : z = i := Nat.le_antisymm ((dn_ex hz8 c3)) hi
          subst hiN
          have hP : va_P D vwCl [(h0, .inr (7, [.ref h1, .long me, .ref h2, .ref h3, .ref h4, .ref h5, .int tw])), (h1, .inl (cI, 165, .inl (rnC f t z z)))] H := hP
          have hD : va_D A [(h0, .inr (7, [.ref h1, .long me, .ref h2, .ref h3, .ref h4, .ref h5, .int tw])), (h1, .inl (cI, 165, .inl (rnC f t z z)))] := hD
          have hl : lv_has ls 3 [(0, .ref h0), (1, .int (fdR f t z z)), (2, .int (dn (z - z)))] := hl
          refine lv_iload_n hx hb dX7_run_95 rfl (lv_at hl 1 rfl) ?_
          refine lv_iconst (v := (-1)) hx hb dX7_run_96 (by decide) ?_
          have K141 : ∀ (y6 : Nat → Int32) (H : Heap) (locs : List Loc) (ls : Array Slot), y6 = (if (fdR f t z z) = (-1) then (upd (rnC f t z z) 9 (r_X7_limited (((rnC f t z z) 9) + ((rnC f t z z) 23)) 0 ((rnC f t z z) 21))) else (a_h1_X7_trip (rnC f t z z) (fdR f t z z) q) : Nat → Int32) → va_P D vwCl [(h0, .inr (7, [.ref h1, .long me, .ref h2, .ref h3, .ref h4, .ref h5, .int tw])), (h1, .inl (cI, 165, .inl y6))] H → va_D A [(h0, .inr (7, [.ref h1, .long me, .ref h2, .ref h3, .ref h4, .ref h5, .int tw])), (h1, .inl (cI, 165, .inl y6))] → va_S A s.heap H locs → lv_has ls 3 [(0, .ref h0), (1, .int (fdR f t z z)), (2, .int (dn (z - z)))] → W p l e ({ frames := 2, cells := 0, slots := 0, locals := 42 } : Room) s m args below meth c H locs 0 0 Q (F0 m 141 ls []) := by
            intro y6 H locs ls ey6 hP hD hS hl
            exact hret () _ _ _ _ _ _ _ (by subst ey6; first | with_reducible rfl | (simp only [a_h1_X7_run, if_neg c2]; done) | rfl) hP hD hS (Nat.le_of_ble_eq_true rfl) (Nat.le_of_ble_eq_true rfl) dX7_run_141
          refine lv_icmp_eq (tgt := 108) hx hb dX7_run_97 (by decide) (fun c5 => ?_) (fun c5 => ?_)
          · refine lv_aload_n hx hb dX7_run_108 rfl (lv_at hl 0 rfl) ?_
            refine va_get (D := D) (ci := 7) (v := .ref h1) (C := RX7) (T := TX7) (N := 7) hx hb hts hi7 hown hK hP 0 rfl rfl 0 (by decide) (hts (.fieldLink RX7 7 "GridInverterModel" "at" "[I") (by decide +kernel)) (fun _ h9 => h9) rfl dX7_run_109 ?_
            refine lv_bipush (v := 9) hx hb dX7_run_112 (by decide) ?_
            refine lv_aload_n hx hb dX7_run_114 rfl (lv_at hl 0 rfl) ?_
            refine va_get (D := D) (ci := 7) (v := .ref h1) (C := RX7) (T := TX7) (N := 7) hx hb hts hi7 hown hK hP 0 rfl rfl 0 (by decide) (hts (.fieldLink RX7 7 "GridInverterModel" "at" "[I") (by decide +kernel)) (fun _ h9 => h9) rfl dX7_run_115 ?_
            refine lv_bipush (v := 9) hx hb dX7_run_118 (by decide) ?_
            refine r_ald hx hb hK hP 1 0 rfl rfl 9 rfl (Nat.le_of_ble_eq_true rfl) (Nat.le_of_ble_eq_true rfl) (v := ((rnC f t z z) 9)) rfl dX7_run_120 ?_
            refine lv_aload_n hx hb dX7_run_121 rfl (lv_at hl 0 rfl) ?_
            refine va_get (D := D) (ci := 7) (v := .ref h1) (C := RX7) (T := TX7) (N := 7) hx hb hts hi7 hown hK hP 0 rfl rfl 0 (by decide) (hts (.fieldLink RX7 7 "GridInverterModel" "at" "[I") (by decide +kernel)) (fun _ h9 => h9) rfl dX7_run_122 ?_
            refine lv_bipush (v := 23) hx hb dX7_run_125 (by decide) ?_
            refine r_ald hx hb hK hP 1 0 rfl rfl 23 rfl (Nat.le_of_ble_eq_true rfl) (Nat.le_of_ble_eq_true rfl) (v := ((rnC f t z z) 23)) rfl dX7_run_127 ?_
            refine lv_iadd hx hb dX7_run_128 ?_
            refine lv_topi (fun x7 ex7 => ?_)
            refine lv_iconst (v := 0) hx hb dX7_run_129 (by decide) ?_
            refine lv_aload_n hx hb dX7_run_130 rfl (lv_at hl 0 rfl) ?_
            refine va_get (D := D) (ci := 7) (v := .ref h1) (C := RX7) (T := TX7) (N := 7) hx hb hts hi7 hown hK hP 0 rfl rfl 0 (by decide) (hts (.fieldLink RX7 7 "GridInverterModel" "at" "[I") (by decide +kernel)) (fun _ h9 => h9) rfl dX7_run_131 ?_
            refine lv_bipush (v := 21) hx hb dX7_run_134 (by decide) ?_
            refine r_ald hx hb hK hP 1 0 rfl rfl 21 rfl (Nat.le_of_ble_eq_true rfl) (Nat.le_of_ble_eq_true rfl) (v := ((rnC f t z z) 21)) rfl dX7_run_136 ?_
            refine call_i (wr := [(h0, .inr (7, [.ref h1, .long me, .ref h2, .ref h3, .ref h4, .ref h5, .int tw])), (h1, .inl (cI, 165, .inl (rnC f t z z)))]) (k := 0) (n := 0) (run_S (As := [.int x7, .int 0, .int ((rnC f t z z) 21)]) (rest := [.int 9, .ref h1]) ⟨hx, hb, hml, hown, hts⟩ (mX7_limited l D cI cJ cZ cO x7 0 ((rnC f t z z) 21) H.size) (va_cwS 3 hts gX7_run_X7_limited rfl rfl rfl (by decide +kernel) ⟨Nat.le_of_ble_eq_true rfl, Nat.le_of_ble_eq_true rfl⟩) hK hN hP hD [] (by decide) rfl rfl rfl hl.1 (Nat.le_of_ble_eq_true rfl) dX7_run_137 ⟨Nat.le_of_ble_eq_true rfl, Nat.le_of_ble_eq_true rfl⟩) hP hD hS hA [] [0, 1] rfl rfl (by decide) (by decide) (Nat.le_of_ble_eq_true rfl) (Nat.le_of_ble_eq_true rfl) (fun H locs hP hD hS => ?_)
            have hP : va_P D vwCl [(h0, .inr (7, [.ref h1, .long me, .ref h2, .ref h3, .ref h4, .ref h5, .int tw])), (h1, .inl (cI, 165, .inl (rnC f t z z)))] H := hP
            have hD : va_D A [(h0, .inr (7, [.ref h1, .long me, .ref h2, .ref h3, .ref h4, .ref h5, .int tw])), (h1, .inl (cI, 165, .inl (rnC f t z z)))] := hD
            refine lv_topi (fun x8 ex8 => ?_)
            refine r_ast hx hb hK hP hD hS 1 0 rfl rfl 9 rfl (Nat.le_of_ble_eq_true rfl) (Nat.le_of_ble_eq_true rfl) dX7_run_140 (fun H locs hP hD hS => ?_)
            have hP : va_P D vwCl [(h0, .inr (7, [.ref h1, .long me, .ref h2, .ref h3, .ref h4, .ref h5, .int tw])), (h1, .inl (cI, 165, .inl (upd (rnC f t z z) 9 x8)))] H := hP
            have hD : va_D A [(h0, .inr (7, [.ref h1, .long me, .ref h2, .ref h3, .ref h4, .ref h5, .int tw])), (h1, .inl (cI, 165, .inl (upd (rnC f t z z) 9 x8)))] := hD
            exact K141 _ _ _ _ (by subst ex7; subst ex8; first | with_reducible rfl | (simp only [if_pos c5]; done) | rfl) (hP.sub [0, 1] rfl) (hD.sub [0, 1] (by decide) rfl) hS (lv_sub hl [0, 1, 2] rfl)
          · refine lv_aload_n hx hb dX7_run_100 rfl (lv_at hl 0 rfl) ?_
            refine lv_iload_n hx hb dX7_run_101 rfl (lv_at hl 1 rfl) ?_
            refine call_v (wr := []) (k := 0) (n := 0) (run_V (As := [.int (fdR f t z z)]) (rest := []) ⟨hx, hb, hml, hown, hts⟩ (mX7_trip l D cI cJ cZ cO h0 h1 h2 h3 h4 h5 me tw (rnC f t z z) (fdR f t z z) q ((rnC_far f t z z 32 hz8 (by omega)).trans hq) hq2 H.size) (cwV 1 hts gX7_run_X7_trip rfl rfl rfl (by decide +kernel) ⟨Nat.le_of_ble_eq_true rfl, Nat.le_of_ble_eq_true rfl⟩) hK hN hP hD [0, 1] (by decide) rfl 7 0 rfl rfl rfl rfl rfl hl.1 (Nat.le_of_ble_eq_true rfl) dX7_run_102 ⟨Nat.le_of_ble_eq_true rfl, Nat.le_of_ble_eq_true rfl⟩) hP hD hS hA [0, 1] [] rfl rfl (by decide) (by decide) (Nat.le_of_ble_eq_true rfl) (Nat.le_of_ble_eq_true rfl) (fun _ H locs hP hD hS => ?_)
            obtain ⟨x9, ex9⟩ : ∃ zz_, zz_ = (a_h1_X7_trip (rnC f t z z) (fdR f t z z) q) := ⟨_, rfl⟩
            have hP : va_P D vwCl [(h0, .inr (7, [.ref h1, .long me, .ref h2, .ref h3, .ref h4, .ref h5, .int tw])), (h1, .inl (cI, 165, .inl x9))] H := by rw [ex9]; exact hP
            have hD : va_D A [(h0, .inr (7, [.ref h1, .long me, .ref h2, .ref h3, .ref h4, .ref h5, .int tw])), (h1, .inl (cI, 165, .inl x9))] := by rw [ex9]; exact hD
            refine lv_goto (tgt := 141) hx hb dX7_run_105 (by decide) ?_
            exact K141 _ _ _ _ (by subst ex9; first | with_reducible rfl | (simp only [if_neg c5]; done) | rfl) (hP.sub [0, 1] rfl) (hD.sub [0, 1] (by decide) rfl) hS (lv_sub hl [0, 1, 2] rfl)
        · have hiN : i < z := (dn_in c3)
          refine lv_aload_n hx hb dX7_run_30 rfl (lv_at hl 0 rfl) ?_
          refine va_get (D := D) (ci := 7) (v := .ref h1) (C := RX7) (T := TX7) (N := 7) hx hb hts hi7 hown hK hP 0 rfl rfl 0 (by decide) (hts (.fieldLink RX7 7 "GridInverterModel" "at" "[I") (by decide +kernel)) (fun _ h9 => h9) rfl dX7_run_31 ?_
          refine lv_bipush (v := 77) hx hb dX7_run_34 (by decide) ?_
          refine lv_iload_n hx hb dX7_run_36 rfl (lv_at hl 2 rfl) ?_
          refine lv_iadd hx hb dX7_run_37 ?_
          refine lv_aload_n hx hb dX7_run_38 rfl (lv_at hl 0 rfl) ?_
          refine lv_iload_n hx hb dX7_run_39 rfl (lv_at hl 2 rfl) ?_
          refine call_i (wr := []) (k := 0) (n := 0) (run_V (As := [.int (dn (z - i))]) (rest := [.int (77 + (dn (z - i))), .ref h1]) ⟨hx, hb, hml, hown, hts⟩ (mX7_isViolated l D cI cJ cZ cO h0 h1 h2 h3 h4 h5 me tw (rnC f t z i) (dn (z - i)) t (z - 1 - i) ((rnC_far f t z i 0 hz8 (by omega)).trans ht) ht2 (dn_at hiN) (by omega) H.size) (cwV 1 hts gX7_run_X7_isViolated rfl rfl rfl (by decide +kernel) ⟨Nat.le_of_ble_eq_true rfl, Nat.le_of_ble_eq_true rfl⟩) hK hN hP hD [0, 1] (by decide) rfl 7 0 rfl rfl rfl rfl rfl hl.1 (Nat.le_of_ble_eq_true rfl) dX7_run_40 ⟨Nat.le_of_ble_eq_true rfl, Nat.le_of_ble_eq_true rfl⟩) hP hD hS hA [0, 1] [] rfl rfl (by decide) (by decide) (Nat.le_of_ble_eq_true rfl) (Nat.le_of_ble_eq_true rfl) (fun H locs hP hD hS => ?_)
          have hP : va_P D vwCl [(h0, .inr (7, [.ref h1, .long me, .ref h2, .ref h3, .ref h4, .ref h5, .int tw])), (h1, .inl (cI, 165, .inl (rnC f t z i)))] H := hP
          have hD : va_D A [(h0, .inr (7, [.ref h1, .long me, .ref h2, .ref h3, .ref h4, .ref h5, .int tw])), (h1, .inl (cI, 165, .inl (rnC f t z i)))] := hD
          refine lv_topi (fun x10 ex10 => ?_)
          have K61 : ∀ (y13 : Int32) (H : Heap) (locs : List Loc) (ls : Array Slot), y13 = (if (r_X7_isViolated (rnC f t z i) t (z - 1 - i)) = 0 then 0 else (((rnC f t z i) (77 + (z - 1 - i))) + 1) : Int32) → va_P D vwCl [(h0, .inr (7, [.ref h1, .long me, .ref h2, .ref h3, .ref h4, .ref h5, .int tw])), (h1, .inl (cI, 165, .inl (rnC f t z i)))] H → va_D A [(h0, .inr (7, [.ref h1, .long me, .ref h2, .ref h3, .ref h4, .ref h5, .int tw])), (h1, .inl (cI, 165, .inl (rnC f t z i)))] → va_S A s.heap H locs → lv_has ls 3 [(0, .ref h0), (1, .int (fdR f t z i)), (2, .int (dn (z - i)))] → W p l e ({ frames := 2, cells := 0, slots := 0, locals := 42 } : Room) s m args below meth c H locs 0 0 Q (F0 m 61 ls [.int y13, .int (77 + (dn (z - i))), .ref h1]) := by
            intro y13 H locs ls ey13 hP hD hS hl
            refine r_ast hx hb hK hP hD hS 1 0 rfl rfl (77 + (z - 1 - i)) (dn_ix 77 hiN) (by omega) (Nat.le_of_ble_eq_true rfl) dX7_run_61 (fun H locs hP hD hS => ?_)
            obtain ⟨x14, ex14⟩ : ∃ zz_, zz_ = (upd (rnC f t z i) (77 + (z - 1 - i)) y13) := ⟨_, rfl⟩
            have hP : va_P D vwCl [(h0, .inr (7, [.ref h1, .long me, .ref h2, .ref h3, .ref h4, .ref h5, .int tw])), (h1, .inl (cI, 165, .inl x14))] H := by rw [ex14]; exact hP
            have hD : va_D A [(h0, .inr (7, [.ref h1, .long me, .ref h2, .ref h3, .ref h4, .ref h5, .int tw])), (h1, .inl (cI, 165, .inl x14))] := by rw [ex14]; exact hD
            refine lv_aload_n hx hb dX7_run_62 rfl (lv_at hl 0 rfl) ?_
            refine va_get (D := D) (ci := 7) (v := .ref h1) (C := RX7) (T := TX7) (N := 7) hx hb hts hi7 hown hK hP 0 rfl rfl 0 (by decide) (hts (.fieldLink RX7 7 "GridInverterModel" "at" "[I") (by decide +kernel)) (fun _ h9 => h9) rfl dX7_run_63 ?_
            refine lv_bipush (v := 77) hx hb dX7_run_66 (by decide) ?_
            refine lv_iload_n hx hb dX7_run_68 rfl (lv_at hl 2 rfl) ?_
            refine lv_iadd hx hb dX7_run_69 ?_
            refine r_ald hx hb hK hP 1 0 rfl rfl (77 + (z - 1 - i)) (dn_ix 77 hiN) (by omega) (Nat.le_of_ble_eq_true rfl) (v := y13) (by subst ex14; exact pk_us) dX7_run_70 ?_
            refine lv_aload_n hx hb dX7_run_71 rfl (lv_at hl 0 rfl) ?_
            refine va_get (D := D) (ci := 7) (v := .ref h1) (C := RX7) (T := TX7) (N := 7) hx hb hts hi7 hown hK hP 0 rfl rfl 0 (by decide) (hts (.fieldLink RX7 7 "GridInverterModel" "at" "[I") (by decide +kernel)) (fun _ h9 => h9) rfl dX7_run_72 ?_
            refine lv_bipush (v := 69) hx hb dX7_run_75 (by decide) ?_
            refine lv_iload_n hx hb dX7_run_77 rfl (lv_at hl 2 rfl) ?_
            refine lv_iadd hx hb dX7_run_78 ?_
            refine r_ald hx hb hK hP 1 0 rfl rfl (69 + (z - 1 - i)) (dn_ix 69 hiN) (by omega) (Nat.le_of_ble_eq_true rfl) (v := ((rnC f t z i) (69 + (z - 1 - i)))) (by subst ex14; exact pk_un (by omega)) dX7_run_79 ?_
            refine lv_topi (fun x15 ex15 => ?_)
            have K88 : ∀ (y18 : Int32) (H : Heap) (locs : List Loc) (ls : Array Slot), y18 = (if (if (r_X7_isViolated (rnC f t z i) t (z - 1 - i)) = 0 then 0 else (((rnC f t z i) (77 + (z - 1 - i))) + 1) : Int32) < ((rnC f t z i) (69 + (z - 1 - i))) then (fdR f t z i) else (dn (z - i)) : Int32) → va_P D vwCl [(h0, .inr (7, [.ref h1, .long me, .ref h2, .ref h3, .ref h4, .ref h5, .int tw])), (h1, .inl (cI, 165, .inl x14))] H → va_D A [(h0, .inr (7, [.ref h1, .long me, .ref h2, .ref h3, .ref h4, .ref h5, .int tw])), (h1, .inl (cI, 165, .inl x14))] → va_S A s.heap H locs → lv_has ls 3 [(0, .ref h0), (1, .int (fdR f t z i)), (2, .int (dn (z - i)))] → W p l e ({ frames := 2, cells := 0, slots := 0, locals := 42 } : Room) s m args below meth c H locs 0 0 Q (F0 m 88 ls [.int y18]) := by
              intro y18 H locs ls ey18 hP hD hS hl
              refine lv_istore_n (lv' := [(1, .int y18), (0, .ref h0), (2, .int (dn (z - i)))]) hx hb dX7_run_88 rfl hl (by decide) rfl (fun ls hl => ?_)
              refine lv_iinc (v := (dn (z - (i + 1)))) (lv' := [(2, .int (dn (z - (i + 1)))), (1, .int y18), (0, .ref h0)]) hx hb dX7_run_89 hl (k := 2) rfl (dn_dec hz8 hiN) (by decide) rfl (fun ls hl => ?_)
              refine lv_goto (tgt := 26) hx hb dX7_run_92 (by decide) ?_
              have eW : ([(h0, .inr (7, [.ref h1, .long me, .ref h2, .ref h3, .ref h4, .ref h5, .int tw])), (h1, .inl (cI, 165, .inl x14))] : va_W) = [(h0, .inr (7, [.ref h1, .long me, .ref h2, .ref h3, .ref h4, .ref h5, .int tw])), (h1, .inl (cI, 165, .inl (rnC f t z (i + 1))))] := (by subst ex10; subst ey13; subst ex14; subst ex15; subst ey18; rfl)
              have eL : ([(0, .ref h0), (1, .int y18), (2, .int (dn (z - (i + 1))))] : List (Nat × Value)) = [(0, .ref h0), (1, .int (fdR f t z (i + 1))), (2, .int (dn (z - (i + 1))))] := (by subst ex10; subst ey13; subst ex14; subst ex15; subst ey18; rfl)
              exact ih (i + 1) H locs ls (by omega) (by omega) (P_eq eW (hP.sub (ws' := [(h0, .inr (7, [.ref h1, .long me, .ref h2, .ref h3, .ref h4, .ref h5, .int tw])), (h1, .inl (cI, 165, .inl x14))]) [0, 1] rfl)) (D_eq eW (hD.sub (ws' := [(h0, .inr (7, [.ref h1, .long me, .ref h2, .ref h3, .ref h4, .ref h5, .int tw])), (h1, .inl (cI, 165, .inl x14))]) [0, 1] (by decide) rfl)) hS (L_eq eL (lv_sub (l' := [(0, .ref h0), (1, .int y18), (2, .int (dn (z - (i + 1))))]) hl [2, 1, 0] rfl))
            refine lv_icmp_lt (tgt := 87) hx hb dX7_run_80 (by decide) (fun c17 => ?_) (fun c17 => ?_)
            · refine lv_iload_n hx hb dX7_run_87 rfl (lv_at hl 1 rfl) ?_
              exact K88 _ _ _ _ (by subst ex10; subst ey13; subst ex14; subst ex15; first | with_reducible rfl | (simp only [if_pos c17]; done) | rfl) (hP.sub [0, 1] rfl) (hD.sub [0, 1] (by decide) rfl) hS (lv_sub hl [0, 1, 2] rfl)
            · refine lv_iload_n hx hb dX7_run_83 rfl (lv_at hl 2 rfl) ?_
              refine lv_goto (tgt := 88) hx hb dX7_run_84 (by decide) ?_
              exact K88 _ _ _ _ (by subst ex10; subst ey13; subst ex14; subst ex15; first | with_reducible rfl | (simp only [if_neg c17]; done) | rfl) (hP.sub [0, 1] rfl) (hD.sub [0, 1] (by decide) rfl) hS (lv_sub hl [0, 1, 2] rfl)
          refine lv_if_eq (tgt := 60) hx hb dX7_run_43 (by decide) (fun c12 => ?_) (fun c12 => ?_)
          · refine lv_iconst (v := 0) hx hb dX7_run_60 (by decide) ?_
            exact K61 _ _ _ _ (by subst ex10; first | with_reducible rfl | (simp only [if_pos c12]; done) | rfl) (hP.sub [0, 1] rfl) (hD.sub [0, 1] (by decide) rfl) hS (lv_sub hl [0, 1, 2] rfl)
          · refine lv_aload_n hx hb dX7_run_46 rfl (lv_at hl 0 rfl) ?_
            refine va_get (D := D) (ci := 7) (v := .ref h1) (C := RX7) (T := TX7) (N := 7) hx hb hts hi7 hown hK hP 0 rfl rfl 0 (by decide) (hts (.fieldLink RX7 7 "GridInverterModel" "at" "[I") (by decide +kernel)) (fun _ h9 => h9) rfl dX7_run_47 ?_
            refine lv_bipush (v := 77) hx hb dX7_run_50 (by decide) ?_
            refine lv_iload_n hx hb dX7_run_52 rfl (lv_at hl 2 rfl) ?_
            refine lv_iadd hx hb dX7_run_53 ?_
            refine r_ald hx hb hK hP 1 0 rfl rfl (77 + (z - 1 - i)) (dn_ix 77 hiN) (by omega) (Nat.le_of_ble_eq_true rfl) (v := ((rnC f t z i) (77 + (z - 1 - i)))) rfl dX7_run_54 ?_
            refine lv_topi (fun x19 ex19 => ?_)
            refine lv_iconst (v := 1) hx hb dX7_run_55 (by decide) ?_
            refine lv_iadd hx hb dX7_run_56 ?_
            refine lv_goto (tgt := 61) hx hb dX7_run_57 (by decide) ?_
            exact K61 _ _ _ _ (by subst ex10; subst ex19; first | with_reducible rfl | (simp only [if_neg c12]; done) | rfl) (hP.sub [0, 1] rfl) (hD.sub [0, 1] (by decide) rfl) hS (lv_sub hl [0, 1, 2] rfl)
    have eW : ([(h0, .inr (7, [.ref h1, .long me, .ref h2, .ref h3, .ref h4, .ref h5, .int tw])), (h1, .inl (cI, 165, .inl f))] : va_W) = [(h0, .inr (7, [.ref h1, .long me, .ref h2, .ref h3, .ref h4, .ref h5, .int tw])), (h1, .inl (cI, 165, .inl (rnC f t z 0)))] := by first | rfl | (rw [dn_0 hz]; rfl)
    have eL : ([(0, .ref h0), (1, .int (-1)), (2, .int ((f 30) - 1))] : List (Nat × Value)) = [(0, .ref h0), (1, .int (fdR f t z 0)), (2, .int (dn (z - 0)))] := by first | rfl | (rw [dn_0 hz]; rfl)
    exact L26 (z + 1) 0 H locs ls (by omega) (by omega) (P_eq eW (hP.sub (ws' := [(h0, .inr (7, [.ref h1, .long me, .ref h2, .ref h3, .ref h4, .ref h5, .int tw])), (h1, .inl (cI, 165, .inl f))]) [0, 1] rfl)) (D_eq eW (hD.sub (ws' := [(h0, .inr (7, [.ref h1, .long me, .ref h2, .ref h3, .ref h4, .ref h5, .int tw])), (h1, .inl (cI, 165, .inl f))]) [0, 1] (by decide) rfl)) hS (L_eq eL (lv_sub (l' := [(0, .ref h0), (1, .int (-1)), (2, .int ((f 30) - 1))]) hl [2, 1, 0] rfl))
  · refine lv_aload_n hx hb dX7_run_7 rfl (lv_at hl 0 rfl) ?_
    refine lv_bipush (v := 101) hx hb dX7_run_8 (by decide) ?_
    refine call_v (wr := []) (k := 0) (n := 0) (run_V (As := [.int 101]) (rest := []) ⟨hx, hb, hml, hown, hts⟩ (mX7_trip l D cI cJ cZ cO h0 h1 h2 h3 h4 h5 me tw f 101 q hq hq2 H.size) (cwV 1 hts gX7_run_X7_trip rfl rfl rfl (by decide +kernel) ⟨Nat.le_of_ble_eq_true rfl, Nat.le_of_ble_eq_true rfl⟩) hK hN hP hD [0, 1] (by decide) rfl 7 0 rfl rfl rfl rfl rfl hl.1 (Nat.le_of_ble_eq_true rfl) dX7_run_10 ⟨Nat.le_of_ble_eq_true rfl, Nat.le_of_ble_eq_true rfl⟩) hP hD hS hA [0, 1] [] rfl rfl (by decide) (by decide) (Nat.le_of_ble_eq_true rfl) (Nat.le_of_ble_eq_true rfl) (fun _ H locs hP hD hS => ?_)
    have hP : va_P D vwCl [(h0, .inr (7, [.ref h1, .long me, .ref h2, .ref h3, .ref h4, .ref h5, .int tw])), (h1, .inl (cI, 165, .inl (a_h1_X7_trip f 101 q)))] H := hP
    have hD : va_D A [(h0, .inr (7, [.ref h1, .long me, .ref h2, .ref h3, .ref h4, .ref h5, .int tw])), (h1, .inl (cI, 165, .inl (a_h1_X7_trip f 101 q)))] := hD
    exact hret () _ _ _ _ _ _ _ (by first | with_reducible rfl | (simp only [a_h1_X7_run, if_pos c2]; done) | rfl) hP hD hS (Nat.le_of_ble_eq_true rfl) (Nat.le_of_ble_eq_true rfl) dX7_run_13

def a_h1_X7_await (f : Nat → Int32) (z : Nat) (q : Nat) : Nat → Int32 := (if (if (if (r_X7_in (f 1) (f 24) (f 25)) = 0 then 0 else (if (r_X7_in (f 5) (f 26) (f 27)) = 0 then 0 else 1 : Int32) : Int32) = 0 then 0 else (if (r_X7_hasLock f) = 0 then 0 else ((f 8) + 1) : Int32) : Int32) < (f 22) then (upd f 8 (if (if (r_X7_in (f 1) (f 24) (f 25)) = 0 then 0 else (if (r_X7_in (f 5) (f 26) (f 27)) = 0 then 0 else 1 : Int32) : Int32) = 0 then 0 else (if (r_X7_hasLock f) = 0 then 0 else ((f 8) + 1) : Int32) : Int32)) else (a_h1_X7_note (wtC (upd (upd (upd f 8 (if (if (r_X7_in (f 1) (f 24) (f 25)) = 0 then 0 else (if (r_X7_in (f 5) (f 26) (f 27)) = 0 then 0 else 1 : Int32) : Int32) = 0 then 0 else (if (r_X7_hasLock f) = 0 then 0 else ((f 8) + 1) : Int32) : Int32)) 20 1) 9 (r_X7_limited (f 23) 0 (f 21))) z) 100 q) : Nat → Int32)
set_option maxHeartbeats 4000000 in
set_option maxRecDepth 100000 in
theorem mX7_await (l : Launch) (D : va_G) (cI cJ cZ cO : ClassId) (h0 : Nat) (h1 : Nat) (h2 : Nat) (h3 : Nat) (h4 : Nat) (h5 : Nat) (me : Int64) (tw : Int32) (f : Nat → Int32) (z : Nat) (q : Nat) (hz : f 30 = nI z) (hz8 : z ≤ 8) (hq : f 32 = nI q) (hq2 : q < 2147483648) : MV l yX7_await wsX7_await ({ frames := 1, cells := 0, slots := 0, locals := 22 } : Room) D (tysK cI cJ cZ cO) [.ref h0] [(h0, .inr (7, [.ref h1, .long me, .ref h2, .ref h3, .ref h4, .ref h5, .int tw])), (h1, .inl (cI, 165, .inl f))] (fun (_ : Unit) => [(h0, .inr (7, [.ref h1, .long me, .ref h2, .ref h3, .ref h4, .ref h5, .int tw])), (h1, .inl (cI, 165, .inl (a_h1_X7_await f z q)))]) := by
  refine MV.of (cc := cX7_await) (maxL := 3) (by decide) rfl (Nat.le_of_ble_eq_true rfl) ?_
  intro p e s m args below meth c A Q ls H locs B hin hS hP hD hl hret
  obtain ⟨hx, hb, hml, hown, hts, hK, hN, hA, hlocks⟩ := B
  have hi7 : ∀ w ∈ u_ws RX7 TX7 7, w ∈ wsX7_await := by decide +kernel
  have hl : lv_has ls 3 [(0, .ref h0)] := hl
  refine lv_aload_n hx hb dX7_await_0 rfl (lv_at hl 0 rfl) ?_
  refine va_get (D := D) (ci := 7) (v := .ref h1) (C := RX7) (T := TX7) (N := 7) hx hb hts hi7 hown hK hP 0 rfl rfl 0 (by decide) (hts (.fieldLink RX7 7 "GridInverterModel" "at" "[I") (by decide +kernel)) (fun _ h9 => h9) rfl dX7_await_1 ?_
  refine lv_iconst (v := 1) hx hb dX7_await_4 (by decide) ?_
  refine r_ald hx hb hK hP 1 0 rfl rfl 1 rfl (Nat.le_of_ble_eq_true rfl) (Nat.le_of_ble_eq_true rfl) (v := (f 1)) rfl dX7_await_5 ?_
  refine lv_aload_n hx hb dX7_await_6 rfl (lv_at hl 0 rfl) ?_
  refine va_get (D := D) (ci := 7) (v := .ref h1) (C := RX7) (T := TX7) (N := 7) hx hb hts hi7 hown hK hP 0 rfl rfl 0 (by decide) (hts (.fieldLink RX7 7 "GridInverterModel" "at" "[I") (by decide +kernel)) (fun _ h9 => h9) rfl dX7_await_7 ?_
  refine lv_bipush (v := 24) hx hb dX7_await_10 (by decide) ?_
  refine r_ald hx hb hK hP 1 0 rfl rfl 24 rfl (Nat.le_of_ble_eq_true rfl) (Nat.le_of_ble_eq_true rfl) (v := (f 24)) rfl dX7_await_12 ?_
  refine lv_aload_n hx hb dX7_await_13 rfl (lv_at hl 0 rfl) ?_
  refine va_get (D := D) (ci := 7) (v := .ref h1) (C := RX7) (T := TX7) (N := 7) hx hb hts hi7 hown hK hP 0 rfl rfl 0 (by decide) (hts (.fieldLink RX7 7 "GridInverterModel" "at" "[I") (by decide +kernel)) (fun _ h9 => h9) rfl dX7_await_14 ?_
  refine lv_bipush (v := 25) hx hb dX7_await_17 (by decide) ?_
  refine r_ald hx hb hK hP 1 0 rfl rfl 25 rfl (Nat.le_of_ble_eq_true rfl) (Nat.le_of_ble_eq_true rfl) (v := (f 25)) rfl dX7_await_19 ?_
  refine call_i (wr := [(h0, .inr (7, [.ref h1, .long me, .ref h2, .ref h3, .ref h4, .ref h5, .int tw])), (h1, .inl (cI, 165, .inl f))]) (k := 0) (n := 0) (run_S (As := [.int (f 1), .int (f 24), .int (f 25)]) (rest := []) ⟨hx, hb, hml, hown, hts⟩ (mX7_in l D cI cJ cZ cO (f 1) (f 24) (f 25) H.size) (va_cwS 3 hts gX7_await_X7_in rfl rfl rfl (by decide +kernel) ⟨Nat.le_of_ble_eq_true rfl, Nat.le_of_ble_eq_true rfl⟩) hK hN hP hD [] (by decide) rfl rfl rfl hl.1 (Nat.le_of_ble_eq_true rfl) dX7_await_20 ⟨Nat.le_of_ble_eq_true rfl, Nat.le_of_ble_eq_true rfl⟩) hP hD hS hA [] [0, 1] rfl rfl (by decide) (by decide) (Nat.le_of_ble_eq_true rfl) (Nat.le_of_ble_eq_true rfl) (fun H locs hP hD hS => ?_)
  have hP : va_P D vwCl [(h0, .inr (7, [.ref h1, .long me, .ref h2, .ref h3, .ref h4, .ref h5, .int tw])), (h1, .inl (cI, 165, .inl f))] H := hP
  have hD : va_D A [(h0, .inr (7, [.ref h1, .long me, .ref h2, .ref h3, .ref h4, .ref h5, .int tw])), (h1, .inl (cI, 165, .inl f))] := hD
  refine lv_topi (fun x1 ex1 => ?_)
  have K57 : ∀ (y4 : Int32) (H : Heap) (locs : List Loc) (ls : Array Slot), y4 = (if (r_X7_in (f 1) (f 24) (f 25)) = 0 then 0 else (if (r_X7_in (f 5) (f 26) (f 27)) = 0 then 0 else 1 : Int32) : Int32) → va_P D vwCl [(h0, .inr (7, [.ref h1, .long me, .ref h2, .ref h3, .ref h4, .ref h5, .int tw])), (h1, .inl (cI, 165, .inl f))] H → va_D A [(h0, .inr (7, [.ref h1, .long me, .ref h2, .ref h3, .ref h4, .ref h5, .int tw])), (h1, .inl (cI, 165, .inl f))] → va_S A s.heap H locs → lv_has ls 3 [(0, .ref h0)] → W p l e ({ frames := 1, cells := 0, slots := 0, locals := 22 } : Room) s m args below meth c H locs 0 0 Q (F0 m 57 ls [.int y4]) := by
    intro y4 H locs ls ey4 hP hD hS hl
    refine lv_istore_n (lv' := [(1, .int y4), (0, .ref h0)]) hx hb dX7_await_57 rfl hl (by decide) rfl (fun ls hl => ?_)
    refine lv_aload_n hx hb dX7_await_58 rfl (lv_at hl 1 rfl) ?_
    refine va_get (D := D) (ci := 7) (v := .ref h1) (C := RX7) (T := TX7) (N := 7) hx hb hts hi7 hown hK hP 0 rfl rfl 0 (by decide) (hts (.fieldLink RX7 7 "GridInverterModel" "at" "[I") (by decide +kernel)) (fun _ h9 => h9) rfl dX7_await_59 ?_
    refine lv_bipush (v := 8) hx hb dX7_await_62 (by decide) ?_
    refine lv_iload_n hx hb dX7_await_64 rfl (lv_at hl 0 rfl) ?_
    have K88 : ∀ (y7 : Int32) (H : Heap) (locs : List Loc) (ls : Array Slot), y7 = (if (if (r_X7_in (f 1) (f 24) (f 25)) = 0 then 0 else (if (r_X7_in (f 5) (f 26) (f 27)) = 0 then 0 else 1 : Int32) : Int32) = 0 then 0 else (if (r_X7_hasLock f) = 0 then 0 else ((f 8) + 1) : Int32) : Int32) → va_P D vwCl [(h0, .inr (7, [.ref h1, .long me, .ref h2, .ref h3, .ref h4, .ref h5, .int tw])), (h1, .inl (cI, 165, .inl f))] H → va_D A [(h0, .inr (7, [.ref h1, .long me, .ref h2, .ref h3, .ref h4, .ref h5, .int tw])), (h1, .inl (cI, 165, .inl f))] → va_S A s.heap H locs → lv_has ls 3 [(0, .ref h0), (1, .int y4)] → W p l e ({ frames := 1, cells := 0, slots := 0, locals := 22 } : Room) s m args below meth c H locs 0 0 Q (F0 m 88 ls [.int y7, .int 8, .ref h1]) := by
      intro y7 H locs ls ey7 hP hD hS hl
      refine r_ast hx hb hK hP hD hS 1 0 rfl rfl 8 rfl (Nat.le_of_ble_eq_true rfl) (Nat.le_of_ble_eq_true rfl) dX7_await_88 (fun H locs hP hD hS => ?_)
      have hP : va_P D vwCl [(h0, .inr (7, [.ref h1, .long me, .ref h2, .ref h3, .ref h4, .ref h5, .int tw])), (h1, .inl (cI, 165, .inl (upd f 8 y7)))] H := hP
      have hD : va_D A [(h0, .inr (7, [.ref h1, .long me, .ref h2, .ref h3, .ref h4, .ref h5, .int tw])), (h1, .inl (cI, 165, .inl (upd f 8 y7)))] := hD
      refine lv_aload_n hx hb dX7_await_89 rfl (lv_at hl 0 rfl) ?_
      refine va_get (D := D) (ci := 7) (v := .ref h1) (C := RX7) (T := TX7) (N := 7) hx hb hts hi7 hown hK hP 0 rfl rfl 0 (by decide) (hts (.fieldLink RX7 7 "GridInverterModel" "at" "[I") (by decide +kernel)) (fun _ h9 => h9) rfl dX7_await_90 ?_
      refine lv_bipush (v := 8) hx hb dX7_await_93 (by decide) ?_
      refine r_ald hx hb hK hP 1 0 rfl rfl 8 rfl (Nat.le_of_ble_eq_true rfl) (Nat.le_of_ble_eq_true rfl) (v := y7) (by exact pk_us) dX7_await_95 ?_
      refine lv_aload_n hx hb dX7_await_96 rfl (lv_at hl 0 rfl) ?_
      refine va_get (D := D) (ci := 7) (v := .ref h1) (C := RX7) (T := TX7) (N := 7) hx hb hts hi7 hown hK hP 0 rfl rfl 0 (by decide) (hts (.fieldLink RX7 7 "GridInverterModel" "at" "[I") (by decide +kernel)) (fun _ h9 => h9) rfl dX7_await_97 ?_
      refine lv_bipush (v := 22) hx hb dX7_await_100 (by decide) ?_
      refine r_ald hx hb hK hP 1 0 rfl rfl 22 rfl (Nat.le_of_ble_eq_true rfl) (Nat.le_of_ble_eq_true rfl) (v := (f 22)) (by rfl) dX7_await_102 ?_
      refine lv_icmp_lt (tgt := 174) hx hb dX7_await_103 (by decide) (fun c9 => ?_) (fun c9 => ?_)
      · exact hret () _ _ _ _ _ _ _ (by subst ex1; subst ey4; subst ey7; first | with_reducible rfl | (simp only [a_h1_X7_await, if_pos c9]; done) | rfl) hP hD hS (Nat.le_of_ble_eq_true rfl) (Nat.le_of_ble_eq_true rfl) dX7_await_174
      · refine lv_aload_n hx hb dX7_await_106 rfl (lv_at hl 0 rfl) ?_
        refine va_get (D := D) (ci := 7) (v := .ref h1) (C := RX7) (T := TX7) (N := 7) hx hb hts hi7 hown hK hP 0 rfl rfl 0 (by decide) (hts (.fieldLink RX7 7 "GridInverterModel" "at" "[I") (by decide +kernel)) (fun _ h9 => h9) rfl dX7_await_107 ?_
        refine lv_bipush (v := 20) hx hb dX7_await_110 (by decide) ?_
        refine lv_iconst (v := 1) hx hb dX7_await_112 (by decide) ?_
        refine r_ast hx hb hK hP hD hS 1 0 rfl rfl 20 rfl (Nat.le_of_ble_eq_true rfl) (Nat.le_of_ble_eq_true rfl) dX7_await_113 (fun H locs hP hD hS => ?_)
        have hP : va_P D vwCl [(h0, .inr (7, [.ref h1, .long me, .ref h2, .ref h3, .ref h4, .ref h5, .int tw])), (h1, .inl (cI, 165, .inl (upd (upd f 8 y7) 20 1)))] H := hP
        have hD : va_D A [(h0, .inr (7, [.ref h1, .long me, .ref h2, .ref h3, .ref h4, .ref h5, .int tw])), (h1, .inl (cI, 165, .inl (upd (upd f 8 y7) 20 1)))] := hD
        refine lv_aload_n hx hb dX7_await_114 rfl (lv_at hl 0 rfl) ?_
        refine va_get (D := D) (ci := 7) (v := .ref h1) (C := RX7) (T := TX7) (N := 7) hx hb hts hi7 hown hK hP 0 rfl rfl 0 (by decide) (hts (.fieldLink RX7 7 "GridInverterModel" "at" "[I") (by decide +kernel)) (fun _ h9 => h9) rfl dX7_await_115 ?_
        refine lv_bipush (v := 9) hx hb dX7_await_118 (by decide) ?_
        refine lv_aload_n hx hb dX7_await_120 rfl (lv_at hl 0 rfl) ?_
        refine va_get (D := D) (ci := 7) (v := .ref h1) (C := RX7) (T := TX7) (N := 7) hx hb hts hi7 hown hK hP 0 rfl rfl 0 (by decide) (hts (.fieldLink RX7 7 "GridInverterModel" "at" "[I") (by decide +kernel)) (fun _ h9 => h9) rfl dX7_await_121 ?_
        refine lv_bipush (v := 23) hx hb dX7_await_124 (by decide) ?_
        refine r_ald hx hb hK hP 1 0 rfl rfl 23 rfl (Nat.le_of_ble_eq_true rfl) (Nat.le_of_ble_eq_true rfl) (v := (f 23)) (by rfl) dX7_await_126 ?_
        refine lv_iconst (v := 0) hx hb dX7_await_127 (by decide) ?_
        refine lv_aload_n hx hb dX7_await_128 rfl (lv_at hl 0 rfl) ?_
        refine va_get (D := D) (ci := 7) (v := .ref h1) (C := RX7) (T := TX7) (N := 7) hx hb hts hi7 hown hK hP 0 rfl rfl 0 (by decide) (hts (.fieldLink RX7 7 "GridInverterModel" "at" "[I") (by decide +kernel)) (fun _ h9 => h9) rfl dX7_await_129 ?_
        refine lv_bipush (v := 21) hx hb dX7_await_132 (by decide) ?_
        refine r_ald hx hb hK hP 1 0 rfl rfl 21 rfl (Nat.le_of_ble_eq_true rfl) (Nat.le_of_ble_eq_true rfl) (v := (f 21)) (by rfl) dX7_await_134 ?_
        refine call_i (wr := [(h0, .inr (7, [.ref h1, .long me, .ref h2, .ref h3, .ref h4, .ref h5, .int tw])), (h1, .inl (cI, 165, .inl (upd (upd f 8 y7) 20 1)))]) (k := 0) (n := 0) (run_S (As := [.int (f 23), .int 0, .int (f 21)]) (rest := [.int 9, .ref h1]) ⟨hx, hb, hml, hown, hts⟩ (mX7_limited l D cI cJ cZ cO (f 23) 0 (f 21) H.size) (va_cwS 3 hts gX7_await_X7_limited rfl rfl rfl (by decide +kernel) ⟨Nat.le_of_ble_eq_true rfl, Nat.le_of_ble_eq_true rfl⟩) hK hN hP hD [] (by decide) rfl rfl rfl hl.1 (Nat.le_of_ble_eq_true rfl) dX7_await_135 ⟨Nat.le_of_ble_eq_true rfl, Nat.le_of_ble_eq_true rfl⟩) hP hD hS hA [] [0, 1] rfl rfl (by decide) (by decide) (Nat.le_of_ble_eq_true rfl) (Nat.le_of_ble_eq_true rfl) (fun H locs hP hD hS => ?_)
        have hP : va_P D vwCl [(h0, .inr (7, [.ref h1, .long me, .ref h2, .ref h3, .ref h4, .ref h5, .int tw])), (h1, .inl (cI, 165, .inl (upd (upd f 8 y7) 20 1)))] H := hP
        have hD : va_D A [(h0, .inr (7, [.ref h1, .long me, .ref h2, .ref h3, .ref h4, .ref h5, .int tw])), (h1, .inl (cI, 165, .inl (upd (upd f 8 y7) 20 1)))] := hD
        refine lv_topi (fun x10 ex10 => ?_)
        refine r_ast hx hb hK hP hD hS 1 0 rfl rfl 9 rfl (Nat.le_of_ble_eq_true rfl) (Nat.le_of_ble_eq_true rfl) dX7_await_138 (fun H locs hP hD hS => ?_)
        obtain ⟨x11, ex11⟩ : ∃ zz_, zz_ = (upd (upd (upd f 8 y7) 20 1) 9 x10) := ⟨_, rfl⟩
        have hP : va_P D vwCl [(h0, .inr (7, [.ref h1, .long me, .ref h2, .ref h3, .ref h4, .ref h5, .int tw])), (h1, .inl (cI, 165, .inl x11))] H := by rw [ex11]; exact hP
        have hD : va_D A [(h0, .inr (7, [.ref h1, .long me, .ref h2, .ref h3, .ref h4, .ref h5, .int tw])), (h1, .inl (cI, 165, .inl x11))] := by rw [ex11]; exact hD
        refine lv_iconst (v := 0) hx hb dX7_await_139 (by decide) ?_
        refine lv_istore_n (lv' := [(2, .int 0), (0, .ref h0), (1, .int y4)]) hx hb dX7_await_140 rfl hl (by decide) rfl (fun ls hl => ?_)
        have L141 : ∀ (n i : Nat) (H : Heap) (locs : List Loc) (ls : Array Slot), i ≤ z → z + 1 ≤ i + n → va_P D vwCl [(h0, .inr (7, [.ref h1, .long me, .ref h2, .ref h3, .ref h4, .ref h5, .int tw])), (h1, .inl (cI, 165, .inl (wtC x11 i)))] H → va_D A [(h0, .inr (7, [.ref h1, .long me, .ref h2, .ref h3, .ref h4, .ref h5, .int tw])), (h1, .inl (cI, 165, .inl (wtC x11 i)))] → va_S A s.heap H locs → lv_has ls 3 [(0, .ref h0), (1, .int y4), (2, .int (nI i))] → W p l e ({ frames := 1, cells := 0, slots := 0, locals := 22 } : Room) s m args below meth c H locs 0 0 Q (F0 m 141 ls []) := by
          intro n
          induction n with
          | zero => intro i H locs ls hi hin; exact absurd hin (by omega)
          | succ n ih =>
            intro i H locs ls hi hin hP hD hS hl
            refine lv_iload_n hx hb dX7_await_141 rfl (lv_at hl 2 rfl) ?_
            refine lv_aload_n hx hb dX7_await_142 rfl (lv_at hl 0 rfl) ?_
            refine va_get (D := D) (ci := 7) (v := .ref h1) (C := RX7) (T := TX7) (N := 7) hx hb hts hi7 hown hK hP 0 rfl rfl 0 (by decide) (hts (.fieldLink RX7 7 "GridInverterModel" "at" "[I") (by decide +kernel)) (fun _ h9 => h9) rfl dX7_await_143 ?_
            refine lv_bipush (v := 30) hx hb dX7_await_146 (by decide) ?_
            refine r_ald hx hb hK hP 1 0 rfl rfl 30 rfl (Nat.le_of_ble_eq_true rfl) (Nat.le_of_ble_eq_true rfl) (v := (f 30)) (by subst ex11; exact (wtC_far _ i 30 (by omega) (by omega)).trans rfl) dX7_await_148 ?_
            refine lv_icmp_ge (tgt := 168) hx hb dX7_await_149 (by decide) (fun c12 => ?_) (fun c12 => ?_)
            · have hiN : z = i := Nat.le_antisymm ((gd_ex hz (by omega) hi c12)) hi
              subst hiN
              have hP : va_P D vwCl [(h0, .inr (7, [.ref h1, .long me, .ref h2, .ref h3, .ref h4, .ref h5, .int tw])), (h1, .inl (cI, 165, .inl (wtC x11 z)))] H := hP
              have hD : va_D A [(h0, .inr (7, [.ref h1, .long me, .ref h2, .ref h3, .ref h4, .ref h5, .int tw])), (h1, .inl (cI, 165, .inl (wtC x11 z)))] := hD
              have hl : lv_has ls 3 [(0, .ref h0), (1, .int y4), (2, .int (nI z))] := hl
              refine lv_aload_n hx hb dX7_await_168 rfl (lv_at hl 0 rfl) ?_
              refine lv_bipush (v := 100) hx hb dX7_await_169 (by decide) ?_
              refine call_v (wr := []) (k := 0) (n := 0) (run_V (As := [.int 100]) (rest := []) ⟨hx, hb, hml, hown, hts⟩ (mX7_note l D cI cJ cZ cO h0 h1 h2 h3 h4 h5 me tw (wtC x11 z) 100 q (by subst ex11; exact (wtC_far _ z 32 (by omega) (by omega)).trans hq) hq2 H.size) (cwV 1 hts gX7_await_X7_note rfl rfl rfl (by decide +kernel) ⟨Nat.le_of_ble_eq_true rfl, Nat.le_of_ble_eq_true rfl⟩) hK hN hP hD [0, 1] (by decide) rfl 7 0 rfl rfl rfl rfl rfl hl.1 (Nat.le_of_ble_eq_true rfl) dX7_await_171 ⟨Nat.le_of_ble_eq_true rfl, Nat.le_of_ble_eq_true rfl⟩) hP hD hS hA [0, 1] [] rfl rfl (by decide) (by decide) (Nat.le_of_ble_eq_true rfl) (Nat.le_of_ble_eq_true rfl) (fun _ H locs hP hD hS => ?_)
              obtain ⟨x13, ex13⟩ : ∃ zz_, zz_ = (a_h1_X7_note (wtC x11 z) 100 q) := ⟨_, rfl⟩
              have hP : va_P D vwCl [(h0, .inr (7, [.ref h1, .long me, .ref h2, .ref h3, .ref h4, .ref h5, .int tw])), (h1, .inl (cI, 165, .inl x13))] H := by rw [ex13]; exact hP
              have hD : va_D A [(h0, .inr (7, [.ref h1, .long me, .ref h2, .ref h3, .ref h4, .ref h5, .int tw])), (h1, .inl (cI, 165, .inl x13))] := by rw [ex13]; exact hD
              exact hret () _ _ _ _ _ _ _ (by subst ex1; subst ey4; subst ey7; subst ex10; subst ex11; subst ex13; first | with_reducible rfl | (simp only [a_h1_X7_await, if_neg c9]; done) | rfl) hP hD hS (Nat.le_of_ble_eq_true rfl) (Nat.le_of_ble_eq_true rfl) dX7_await_174
            · have hiN : i < z := (gd_in hz (by omega) hi c12)
              refine lv_aload_n hx hb dX7_await_152 rfl (lv_at hl 0 rfl) ?_
              refine va_get (D := D) (ci := 7) (v := .ref h1) (C := RX7) (T := TX7) (N := 7) hx hb hts hi7 hown hK hP 0 rfl rfl 0 (by decide) (hts (.fieldLink RX7 7 "GridInverterModel" "at" "[I") (by decide +kernel)) (fun _ h9 => h9) rfl dX7_await_153 ?_
              refine lv_bipush (v := 77) hx hb dX7_await_156 (by decide) ?_
              refine lv_iload_n hx hb dX7_await_158 rfl (lv_at hl 2 rfl) ?_
              refine lv_iadd hx hb dX7_await_159 ?_
              refine lv_iconst (v := 0) hx hb dX7_await_160 (by decide) ?_
              refine r_ast hx hb hK hP hD hS 1 0 rfl rfl (77 + i) (nI_add 77 i) (by omega) (Nat.le_of_ble_eq_true rfl) dX7_await_161 (fun H locs hP hD hS => ?_)
              obtain ⟨x14, ex14⟩ : ∃ zz_, zz_ = (upd (wtC x11 i) (77 + i) 0) := ⟨_, rfl⟩
              have hP : va_P D vwCl [(h0, .inr (7, [.ref h1, .long me, .ref h2, .ref h3, .ref h4, .ref h5, .int tw])), (h1, .inl (cI, 165, .inl x14))] H := by rw [ex14]; exact hP
              have hD : va_D A [(h0, .inr (7, [.ref h1, .long me, .ref h2, .ref h3, .ref h4, .ref h5, .int tw])), (h1, .inl (cI, 165, .inl x14))] := by rw [ex14]; exact hD
              refine lv_iinc (v := (nI (i + 1))) (lv' := [(2, .int (nI (i + 1))), (0, .ref h0), (1, .int y4)]) hx hb dX7_await_162 hl (k := 2) rfl (nI_1 i) (by decide) rfl (fun ls hl => ?_)
              refine lv_goto (tgt := 141) hx hb dX7_await_165 (by decide) ?_
              have eW : ([(h0, .inr (7, [.ref h1, .long me, .ref h2, .ref h3, .ref h4, .ref h5, .int tw])), (h1, .inl (cI, 165, .inl x14))] : va_W) = [(h0, .inr (7, [.ref h1, .long me, .ref h2, .ref h3, .ref h4, .ref h5, .int tw])), (h1, .inl (cI, 165, .inl (wtC x11 (i + 1))))] := (by subst ex14; rfl)
              have eL : ([(0, .ref h0), (1, .int y4), (2, .int (nI (i + 1)))] : List (Nat × Value)) = [(0, .ref h0), (1, .int y4), (2, .int (nI (i + 1)))] := (by subst ex14; rfl)
              exact ih (i + 1) H locs ls (by omega) (by omega) (P_eq eW (hP.sub (ws' := [(h0, .inr (7, [.ref h1, .long me, .ref h2, .ref h3, .ref h4, .ref h5, .int tw])), (h1, .inl (cI, 165, .inl x14))]) [0, 1] rfl)) (D_eq eW (hD.sub (ws' := [(h0, .inr (7, [.ref h1, .long me, .ref h2, .ref h3, .ref h4, .ref h5, .int tw])), (h1, .inl (cI, 165, .inl x14))]) [0, 1] (by decide) rfl)) hS (L_eq eL (lv_sub (l' := [(0, .ref h0), (1, .int y4), (2, .int (nI (i + 1)))]) hl [1, 2, 0] rfl))
        have eW : ([(h0, .inr (7, [.ref h1, .long me, .ref h2, .ref h3, .ref h4, .ref h5, .int tw])), (h1, .inl (cI, 165, .inl x11))] : va_W) = [(h0, .inr (7, [.ref h1, .long me, .ref h2, .ref h3, .ref h4, .ref h5, .int tw])), (h1, .inl (cI, 165, .inl (wtC x11 0)))] := by subst ex1; subst ey4; subst ey7; subst ex10; subst ex11; rfl
        have eL : ([(0, .ref h0), (1, .int y4), (2, .int 0)] : List (Nat × Value)) = [(0, .ref h0), (1, .int y4), (2, .int (nI 0))] := by subst ex1; subst ey4; subst ey7; subst ex10; subst ex11; rfl
        exact L141 (z + 1) 0 H locs ls (by omega) (by omega) (P_eq eW (hP.sub (ws' := [(h0, .inr (7, [.ref h1, .long me, .ref h2, .ref h3, .ref h4, .ref h5, .int tw])), (h1, .inl (cI, 165, .inl x11))]) [0, 1] rfl)) (D_eq eW (hD.sub (ws' := [(h0, .inr (7, [.ref h1, .long me, .ref h2, .ref h3, .ref h4, .ref h5, .int tw])), (h1, .inl (cI, 165, .inl x11))]) [0, 1] (by decide) rfl)) hS (L_eq eL (lv_sub (l' := [(0, .ref h0), (1, .int y4), (2, .int 0)]) hl [1, 2, 0] rfl))
    refine lv_if_eq (tgt := 87) hx hb dX7_await_65 (by decide) (fun c6 => ?_) (fun c6 => ?_)
    · refine lv_iconst (v := 0) hx hb dX7_await_87 (by decide) ?_
      exact K88 _ _ _ _ (by subst ex1; subst ey4; first | with_reducible rfl | (simp only [if_pos c6]; done) | rfl) (hP.sub [0, 1] rfl) (hD.sub [0, 1] (by decide) rfl) hS (lv_sub hl [1, 0] rfl)
    · refine lv_aload_n hx hb dX7_await_68 rfl (lv_at hl 1 rfl) ?_
      refine call_i (wr := []) (k := 0) (n := 0) (run_V (As := []) (rest := [.int 8, .ref h1]) ⟨hx, hb, hml, hown, hts⟩ (mX7_hasLock l D cI cJ cZ cO h0 h1 h2 h3 h4 h5 me tw f H.size) (cwV 0 hts gX7_await_X7_hasLock rfl rfl rfl (by decide +kernel) ⟨Nat.le_of_ble_eq_true rfl, Nat.le_of_ble_eq_true rfl⟩) hK hN hP hD [0, 1] (by decide) rfl 7 0 rfl rfl rfl rfl rfl hl.1 (Nat.le_of_ble_eq_true rfl) dX7_await_69 ⟨Nat.le_of_ble_eq_true rfl, Nat.le_of_ble_eq_true rfl⟩) hP hD hS hA [0, 1] [] rfl rfl (by decide) (by decide) (Nat.le_of_ble_eq_true rfl) (Nat.le_of_ble_eq_true rfl) (fun H locs hP hD hS => ?_)
      have hP : va_P D vwCl [(h0, .inr (7, [.ref h1, .long me, .ref h2, .ref h3, .ref h4, .ref h5, .int tw])), (h1, .inl (cI, 165, .inl f))] H := hP
      have hD : va_D A [(h0, .inr (7, [.ref h1, .long me, .ref h2, .ref h3, .ref h4, .ref h5, .int tw])), (h1, .inl (cI, 165, .inl f))] := hD
      refine lv_if_eq (tgt := 87) hx hb dX7_await_72 (by decide) (fun c16 => ?_) (fun c16 => ?_)
      · refine lv_iconst (v := 0) hx hb dX7_await_87 (by decide) ?_
        exact K88 _ _ _ _ (by subst ex1; subst ey4; first | with_reducible rfl | (simp only [if_neg c6, if_pos c16]; done) | rfl) (hP.sub [0, 1] rfl) (hD.sub [0, 1] (by decide) rfl) hS (lv_sub hl [1, 0] rfl)
      · refine lv_aload_n hx hb dX7_await_75 rfl (lv_at hl 1 rfl) ?_
        refine va_get (D := D) (ci := 7) (v := .ref h1) (C := RX7) (T := TX7) (N := 7) hx hb hts hi7 hown hK hP 0 rfl rfl 0 (by decide) (hts (.fieldLink RX7 7 "GridInverterModel" "at" "[I") (by decide +kernel)) (fun _ h9 => h9) rfl dX7_await_76 ?_
        refine lv_bipush (v := 8) hx hb dX7_await_79 (by decide) ?_
        refine r_ald hx hb hK hP 1 0 rfl rfl 8 rfl (Nat.le_of_ble_eq_true rfl) (Nat.le_of_ble_eq_true rfl) (v := (f 8)) rfl dX7_await_81 ?_
        refine lv_iconst (v := 1) hx hb dX7_await_82 (by decide) ?_
        refine lv_iadd hx hb dX7_await_83 ?_
        refine lv_goto (tgt := 88) hx hb dX7_await_84 (by decide) ?_
        exact K88 _ _ _ _ (by subst ex1; subst ey4; first | with_reducible rfl | (simp only [if_neg c6, if_neg c16]; done) | rfl) (hP.sub [0, 1] rfl) (hD.sub [0, 1] (by decide) rfl) hS (lv_sub hl [1, 0] rfl)
  refine lv_if_eq (tgt := 56) hx hb dX7_await_23 (by decide) (fun c3 => ?_) (fun c3 => ?_)
  · refine lv_iconst (v := 0) hx hb dX7_await_56 (by decide) ?_
    exact K57 _ _ _ _ (by subst ex1; first | with_reducible rfl | (simp only [if_pos c3]; done) | rfl) (hP.sub [0, 1] rfl) (hD.sub [0, 1] (by decide) rfl) hS (lv_sub hl [0] rfl)
  · refine lv_aload_n hx hb dX7_await_26 rfl (lv_at hl 0 rfl) ?_
    refine va_get (D := D) (ci := 7) (v := .ref h1) (C := RX7) (T := TX7) (N := 7) hx hb hts hi7 hown hK hP 0 rfl rfl 0 (by decide) (hts (.fieldLink RX7 7 "GridInverterModel" "at" "[I") (by decide +kernel)) (fun _ h9 => h9) rfl dX7_await_27 ?_
    refine lv_iconst (v := 5) hx hb dX7_await_30 (by decide) ?_
    refine r_ald hx hb hK hP 1 0 rfl rfl 5 rfl (Nat.le_of_ble_eq_true rfl) (Nat.le_of_ble_eq_true rfl) (v := (f 5)) rfl dX7_await_31 ?_
    refine lv_aload_n hx hb dX7_await_32 rfl (lv_at hl 0 rfl) ?_
    refine va_get (D := D) (ci := 7) (v := .ref h1) (C := RX7) (T := TX7) (N := 7) hx hb hts hi7 hown hK hP 0 rfl rfl 0 (by decide) (hts (.fieldLink RX7 7 "GridInverterModel" "at" "[I") (by decide +kernel)) (fun _ h9 => h9) rfl dX7_await_33 ?_
    refine lv_bipush (v := 26) hx hb dX7_await_36 (by decide) ?_
    refine r_ald hx hb hK hP 1 0 rfl rfl 26 rfl (Nat.le_of_ble_eq_true rfl) (Nat.le_of_ble_eq_true rfl) (v := (f 26)) rfl dX7_await_38 ?_
    refine lv_aload_n hx hb dX7_await_39 rfl (lv_at hl 0 rfl) ?_
    refine va_get (D := D) (ci := 7) (v := .ref h1) (C := RX7) (T := TX7) (N := 7) hx hb hts hi7 hown hK hP 0 rfl rfl 0 (by decide) (hts (.fieldLink RX7 7 "GridInverterModel" "at" "[I") (by decide +kernel)) (fun _ h9 => h9) rfl dX7_await_40 ?_
    refine lv_bipush (v := 27) hx hb dX7_await_43 (by decide) ?_
    refine r_ald hx hb hK hP 1 0 rfl rfl 27 rfl (Nat.le_of_ble_eq_true rfl) (Nat.le_of_ble_eq_true rfl) (v := (f 27)) rfl dX7_await_45 ?_
    refine call_i (wr := [(h0, .inr (7, [.ref h1, .long me, .ref h2, .ref h3, .ref h4, .ref h5, .int tw])), (h1, .inl (cI, 165, .inl f))]) (k := 0) (n := 0) (run_S (As := [.int (f 5), .int (f 26), .int (f 27)]) (rest := []) ⟨hx, hb, hml, hown, hts⟩ (mX7_in l D cI cJ cZ cO (f 5) (f 26) (f 27) H.size) (va_cwS 3 hts gX7_await_X7_in rfl rfl rfl (by decide +kernel) ⟨Nat.le_of_ble_eq_true rfl, Nat.le_of_ble_eq_true rfl⟩) hK hN hP hD [] (by decide) rfl rfl rfl hl.1 (Nat.le_of_ble_eq_true rfl) dX7_await_46 ⟨Nat.le_of_ble_eq_true rfl, Nat.le_of_ble_eq_true rfl⟩) hP hD hS hA [] [0, 1] rfl rfl (by decide) (by decide) (Nat.le_of_ble_eq_true rfl) (Nat.le_of_ble_eq_true rfl) (fun H locs hP hD hS => ?_)
    have hP : va_P D vwCl [(h0, .inr (7, [.ref h1, .long me, .ref h2, .ref h3, .ref h4, .ref h5, .int tw])), (h1, .inl (cI, 165, .inl f))] H := hP
    have hD : va_D A [(h0, .inr (7, [.ref h1, .long me, .ref h2, .ref h3, .ref h4, .ref h5, .int tw])), (h1, .inl (cI, 165, .inl f))] := hD
    refine lv_topi (fun x17 ex17 => ?_)
    refine lv_if_eq (tgt := 56) hx hb dX7_await_49 (by decide) (fun c19 => ?_) (fun c19 => ?_)
    · refine lv_iconst (v := 0) hx hb dX7_await_56 (by decide) ?_
      exact K57 _ _ _ _ (by subst ex1; subst ex17; first | with_reducible rfl | (simp only [if_neg c3, if_pos c19]; done) | rfl) (hP.sub [0, 1] rfl) (hD.sub [0, 1] (by decide) rfl) hS (lv_sub hl [0] rfl)
    · refine lv_iconst (v := 1) hx hb dX7_await_52 (by decide) ?_
      refine lv_goto (tgt := 57) hx hb dX7_await_53 (by decide) ?_
      exact K57 _ _ _ _ (by subst ex1; subst ex17; first | with_reducible rfl | (simp only [if_neg c3, if_neg c19]; done) | rfl) (hP.sub [0, 1] rfl) (hD.sub [0, 1] (by decide) rfl) hS (lv_sub hl [0] rfl)

def a_h1_X7_tick (x3 : Nat → Int32) (x9 : Nat → Int32) (x16 : Nat → Int32) (x23 : Nat → Int32) : Nat → Int32 := (if (x3 20) = 1 then (upd x23 31 ((x23 31) + (if (x23 20) = 1 then 1 else 0 : Int32))) else (if (x3 20) = 0 then (upd x16 31 ((x16 31) + (if (x16 20) = 1 then 1 else 0 : Int32))) else (upd x9 31 ((x9 31) + (if (x9 20) = 1 then 1 else 0 : Int32))) : Nat → Int32) : Nat → Int32)
set_option maxHeartbeats 4000000 in
set_option maxRecDepth 100000 in
theorem mX7_tick (l : Launch) (D : va_G) (cI cJ cZ cO : ClassId) (h0 : Nat) (h1 : Nat) (h2 : Nat) (h3 : Nat) (h4 : Nat) (h5 : Nat) (me : Int64) (tw : Int32) (f : Nat → Int32) (t : Nat) (z : Nat) (q : Nat) (x1 : Nat → Int32) (x2 : Nat → Int32) (x3 : Nat → Int32) (x8 : Int32) (x9 : Nat → Int32) (x14 : Nat → Int32) (x15 : Int32) (x16 : Nat → Int32) (x21 : Nat → Int32) (x22 : Int32) (x23 : Nat → Int32) (ht : f 0 = nI t) (ht2 : t < 2147483647) (hz : f 30 = nI z) (hz8 : z ≤ 8) (hq : f 32 = nI q) (hq2 : q < 2147483648) (hld : ¬ f 13 = 0) (ex1 : x1 = (upd f 0 ((f 0) + 1))) (ex2 : x2 = (a_h1_X7_feedLine x1)) (ex3 : x3 = (a_h1_X7_follow x2)) (ex8 : x8 = ((x3 0) - (x3 0) / 20 * 20)) (k0x3 : x3 0 = nI (t + 1)) (ex9 : x9 = (upd x3 (33 + (t + 1) % 20) (x3 5))) (k30x3 : x3 30 = nI z) (k32x3 : x3 32 = nI q) (ex14 : x14 = (a_h1_X7_await x3 z q)) (ex15 : x15 = ((x14 0) - (x14 0) / 20 * 20)) (k0x14 : x14 0 = nI (t + 1)) (ex16 : x16 = (upd x14 (33 + (t + 1) % 20) (x14 5))) (ex21 : x21 = (a_h1_X7_run x3 (t + 1) z q)) (ex22 : x22 = ((x21 0) - (x21 0) / 20 * 20)) (k0x21 : x21 0 = nI (t + 1)) (ex23 : x23 = (upd x21 (33 + (t + 1) % 20) (x21 5))) : MV l yX7_tick wsX7_tick ({ frames := 3, cells := 0, slots := 0, locals := 64 } : Room) D (tysK cI cJ cZ cO) [.ref h0] [(h0, .inr (7, [.ref h1, .long me, .ref h2, .ref h3, .ref h4, .ref h5, .int tw])), (h1, .inl (cI, 165, .inl f))] (fun (_ : Unit) => [(h0, .inr (7, [.ref h1, .long me, .ref h2, .ref h3, .ref h4, .ref h5, .int tw])), (h1, .inl (cI, 165, .inl (a_h1_X7_tick x3 x9 x16 x23)))]) := by
  refine MV.of (cc := cX7_tick) (maxL := 1) (by decide) rfl (Nat.le_of_ble_eq_true rfl) ?_
  intro p e s m args below meth c A Q ls H locs B hin hS hP hD hl hret
  obtain ⟨hx, hb, hml, hown, hts, hK, hN, hA, hlocks⟩ := B
  have hi7 : ∀ w ∈ u_ws RX7 TX7 7, w ∈ wsX7_tick := by decide +kernel
  have hl : lv_has ls 1 [(0, .ref h0)] := hl
  refine lv_aload_n hx hb dX7_tick_0 rfl (lv_at hl 0 rfl) ?_
  refine va_get (D := D) (ci := 7) (v := .ref h1) (C := RX7) (T := TX7) (N := 7) hx hb hts hi7 hown hK hP 0 rfl rfl 0 (by decide) (hts (.fieldLink RX7 7 "GridInverterModel" "at" "[I") (by decide +kernel)) (fun _ h9 => h9) rfl dX7_tick_1 ?_
  refine lv_iconst (v := 0) hx hb dX7_tick_4 (by decide) ?_
  refine lv_dup2_11 hx hb dX7_tick_5 rfl rfl ?_
  refine r_ald hx hb hK hP 1 0 rfl rfl 0 rfl (Nat.le_of_ble_eq_true rfl) (Nat.le_of_ble_eq_true rfl) (v := (f 0)) rfl dX7_tick_6 ?_
  refine lv_iconst (v := 1) hx hb dX7_tick_7 (by decide) ?_
  refine lv_iadd hx hb dX7_tick_8 ?_
  refine r_ast hx hb hK hP hD hS 1 0 rfl rfl 0 rfl (Nat.le_of_ble_eq_true rfl) (Nat.le_of_ble_eq_true rfl) dX7_tick_9 (fun H locs hP hD hS => ?_)
  have hP : va_P D vwCl [(h0, .inr (7, [.ref h1, .long me, .ref h2, .ref h3, .ref h4, .ref h5, .int tw])), (h1, .inl (cI, 165, .inl x1))] H := by rw [ex1]; exact hP
  have hD : va_D A [(h0, .inr (7, [.ref h1, .long me, .ref h2, .ref h3, .ref h4, .ref h5, .int tw])), (h1, .inl (cI, 165, .inl x1))] := by rw [ex1]; exact hD
  refine lv_aload_n hx hb dX7_tick_10 rfl (lv_at hl 0 rfl) ?_
  refine call_v (wr := []) (k := 0) (n := 0) (run_V (As := []) (rest := []) ⟨hx, hb, hml, hown, hts⟩ (mX7_feedLine l D cI cJ cZ cO h0 h1 h2 h3 h4 h5 me tw x1 (by rw [ex1]; exact hld) H.size) (cwV 0 hts gX7_tick_X7_feedLine rfl rfl rfl (by decide +kernel) ⟨Nat.le_of_ble_eq_true rfl, Nat.le_of_ble_eq_true rfl⟩) hK hN hP hD [0, 1] (by decide) rfl 7 0 rfl rfl rfl rfl rfl hl.1 (Nat.le_of_ble_eq_true rfl) dX7_tick_11 ⟨Nat.le_of_ble_eq_true rfl, Nat.le_of_ble_eq_true rfl⟩) hP hD hS hA [0, 1] [] rfl rfl (by decide) (by decide) (Nat.le_of_ble_eq_true rfl) (Nat.le_of_ble_eq_true rfl) (fun _ H locs hP hD hS => ?_)
  have hP : va_P D vwCl [(h0, .inr (7, [.ref h1, .long me, .ref h2, .ref h3, .ref h4, .ref h5, .int tw])), (h1, .inl (cI, 165, .inl x2))] H := by rw [ex2]; exact hP
  have hD : va_D A [(h0, .inr (7, [.ref h1, .long me, .ref h2, .ref h3, .ref h4, .ref h5, .int tw])), (h1, .inl (cI, 165, .inl x2))] := by rw [ex2]; exact hD
  refine lv_aload_n hx hb dX7_tick_14 rfl (lv_at hl 0 rfl) ?_
  refine call_v (wr := []) (k := 0) (n := 0) (run_V (As := []) (rest := []) ⟨hx, hb, hml, hown, hts⟩ (mX7_follow l D cI cJ cZ cO h0 h1 h2 h3 h4 h5 me tw x2 H.size) (cwV 0 hts gX7_tick_X7_follow rfl rfl rfl (by decide +kernel) ⟨Nat.le_of_ble_eq_true rfl, Nat.le_of_ble_eq_true rfl⟩) hK hN hP hD [0, 1] (by decide) rfl 7 0 rfl rfl rfl rfl rfl hl.1 (Nat.le_of_ble_eq_true rfl) dX7_tick_15 ⟨Nat.le_of_ble_eq_true rfl, Nat.le_of_ble_eq_true rfl⟩) hP hD hS hA [0, 1] [] rfl rfl (by decide) (by decide) (Nat.le_of_ble_eq_true rfl) (Nat.le_of_ble_eq_true rfl) (fun _ H locs hP hD hS => ?_)
  have hP : va_P D vwCl [(h0, .inr (7, [.ref h1, .long me, .ref h2, .ref h3, .ref h4, .ref h5, .int tw])), (h1, .inl (cI, 165, .inl x3))] H := by rw [ex3]; exact hP
  have hD : va_D A [(h0, .inr (7, [.ref h1, .long me, .ref h2, .ref h3, .ref h4, .ref h5, .int tw])), (h1, .inl (cI, 165, .inl x3))] := by rw [ex3]; exact hD
  refine lv_aload_n hx hb dX7_tick_18 rfl (lv_at hl 0 rfl) ?_
  refine va_get (D := D) (ci := 7) (v := .ref h1) (C := RX7) (T := TX7) (N := 7) hx hb hts hi7 hown hK hP 0 rfl rfl 0 (by decide) (hts (.fieldLink RX7 7 "GridInverterModel" "at" "[I") (by decide +kernel)) (fun _ h9 => h9) rfl dX7_tick_19 ?_
  refine lv_bipush (v := 20) hx hb dX7_tick_22 (by decide) ?_
  refine r_ald hx hb hK hP 1 0 rfl rfl 20 rfl (Nat.le_of_ble_eq_true rfl) (Nat.le_of_ble_eq_true rfl) (v := (x3 20)) rfl dX7_tick_24 ?_
  refine lv_iconst (v := 1) hx hb dX7_tick_25 (by decide) ?_
  refine lv_icmp_ne (tgt := 36) hx hb dX7_tick_26 (by decide) (fun c5 => ?_) (fun c5 => ?_)
  · refine lv_aload_n hx hb dX7_tick_36 rfl (lv_at hl 0 rfl) ?_
    refine va_get (D := D) (ci := 7) (v := .ref h1) (C := RX7) (T := TX7) (N := 7) hx hb hts hi7 hown hK hP 0 rfl rfl 0 (by decide) (hts (.fieldLink RX7 7 "GridInverterModel" "at" "[I") (by decide +kernel)) (fun _ h9 => h9) rfl dX7_tick_37 ?_
    refine lv_bipush (v := 20) hx hb dX7_tick_40 (by decide) ?_
    refine r_ald hx hb hK hP 1 0 rfl rfl 20 rfl (Nat.le_of_ble_eq_true rfl) (Nat.le_of_ble_eq_true rfl) (v := (x3 20)) rfl dX7_tick_42 ?_
    refine lv_if_ne (tgt := 50) hx hb dX7_tick_43 (by decide) (fun c7 => ?_) (fun c7 => ?_)
    · refine lv_aload_n hx hb dX7_tick_50 rfl (lv_at hl 0 rfl) ?_
      refine va_get (D := D) (ci := 7) (v := .ref h1) (C := RX7) (T := TX7) (N := 7) hx hb hts hi7 hown hK hP 0 rfl rfl 0 (by decide) (hts (.fieldLink RX7 7 "GridInverterModel" "at" "[I") (by decide +kernel)) (fun _ h9 => h9) rfl dX7_tick_51 ?_
      refine lv_bipush (v := 33) hx hb dX7_tick_54 (by decide) ?_
      refine lv_aload_n hx hb dX7_tick_56 rfl (lv_at hl 0 rfl) ?_
      refine va_get (D := D) (ci := 7) (v := .ref h1) (C := RX7) (T := TX7) (N := 7) hx hb hts hi7 hown hK hP 0 rfl rfl 0 (by decide) (hts (.fieldLink RX7 7 "GridInverterModel" "at" "[I") (by decide +kernel)) (fun _ h9 => h9) rfl dX7_tick_57 ?_
      refine lv_iconst (v := 0) hx hb dX7_tick_60 (by decide) ?_
      refine r_ald hx hb hK hP 1 0 rfl rfl 0 rfl (Nat.le_of_ble_eq_true rfl) (Nat.le_of_ble_eq_true rfl) (v := (x3 0)) rfl dX7_tick_61 ?_
      refine lv_bipush (v := 20) hx hb dX7_tick_62 (by decide) ?_
      refine lv_irem hx hb dX7_tick_64 (by decide) ?_
      refine lv_tope ex8 ?_
      refine lv_iadd hx hb dX7_tick_65 ?_
      refine lv_aload_n hx hb dX7_tick_66 rfl (lv_at hl 0 rfl) ?_
      refine va_get (D := D) (ci := 7) (v := .ref h1) (C := RX7) (T := TX7) (N := 7) hx hb hts hi7 hown hK hP 0 rfl rfl 0 (by decide) (hts (.fieldLink RX7 7 "GridInverterModel" "at" "[I") (by decide +kernel)) (fun _ h9 => h9) rfl dX7_tick_67 ?_
      refine lv_iconst (v := 5) hx hb dX7_tick_70 (by decide) ?_
      refine r_ald hx hb hK hP 1 0 rfl rfl 5 rfl (Nat.le_of_ble_eq_true rfl) (Nat.le_of_ble_eq_true rfl) (v := (x3 5)) rfl dX7_tick_71 ?_
      refine r_ast hx hb hK hP hD hS 1 0 rfl rfl (33 + (t + 1) % 20) (by rw [ex8]; exact (rem_ix 33 20 k0x3 (by omega) (Nat.le_of_ble_eq_true rfl) (Nat.le_of_ble_eq_true rfl))) (by omega) (Nat.le_of_ble_eq_true rfl) dX7_tick_72 (fun H locs hP hD hS => ?_)
      have hP : va_P D vwCl [(h0, .inr (7, [.ref h1, .long me, .ref h2, .ref h3, .ref h4, .ref h5, .int tw])), (h1, .inl (cI, 165, .inl x9))] H := by rw [ex9]; exact hP
      have hD : va_D A [(h0, .inr (7, [.ref h1, .long me, .ref h2, .ref h3, .ref h4, .ref h5, .int tw])), (h1, .inl (cI, 165, .inl x9))] := by rw [ex9]; exact hD
      refine lv_aload_n hx hb dX7_tick_73 rfl (lv_at hl 0 rfl) ?_
      refine va_get (D := D) (ci := 7) (v := .ref h1) (C := RX7) (T := TX7) (N := 7) hx hb hts hi7 hown hK hP 0 rfl rfl 0 (by decide) (hts (.fieldLink RX7 7 "GridInverterModel" "at" "[I") (by decide +kernel)) (fun _ h9 => h9) rfl dX7_tick_74 ?_
      refine lv_bipush (v := 31) hx hb dX7_tick_77 (by decide) ?_
      refine lv_dup2_11 hx hb dX7_tick_79 rfl rfl ?_
      refine r_ald hx hb hK hP 1 0 rfl rfl 31 rfl (Nat.le_of_ble_eq_true rfl) (Nat.le_of_ble_eq_true rfl) (v := (x9 31)) rfl dX7_tick_80 ?_
      refine lv_aload_n hx hb dX7_tick_81 rfl (lv_at hl 0 rfl) ?_
      refine va_get (D := D) (ci := 7) (v := .ref h1) (C := RX7) (T := TX7) (N := 7) hx hb hts hi7 hown hK hP 0 rfl rfl 0 (by decide) (hts (.fieldLink RX7 7 "GridInverterModel" "at" "[I") (by decide +kernel)) (fun _ h9 => h9) rfl dX7_tick_82 ?_
      refine lv_bipush (v := 20) hx hb dX7_tick_85 (by decide) ?_
      refine r_ald hx hb hK hP 1 0 rfl rfl 20 rfl (Nat.le_of_ble_eq_true rfl) (Nat.le_of_ble_eq_true rfl) (v := (x9 20)) rfl dX7_tick_87 ?_
      refine lv_iconst (v := 1) hx hb dX7_tick_88 (by decide) ?_
      have K97 : ∀ (y12 : Int32) (H : Heap) (locs : List Loc) (ls : Array Slot), y12 = (if (x9 20) = 1 then 1 else 0 : Int32) → va_P D vwCl [(h0, .inr (7, [.ref h1, .long me, .ref h2, .ref h3, .ref h4, .ref h5, .int tw])), (h1, .inl (cI, 165, .inl x9))] H → va_D A [(h0, .inr (7, [.ref h1, .long me, .ref h2, .ref h3, .ref h4, .ref h5, .int tw])), (h1, .inl (cI, 165, .inl x9))] → va_S A s.heap H locs → lv_has ls 1 [(0, .ref h0)] → W p l e ({ frames := 3, cells := 0, slots := 0, locals := 64 } : Room) s m args below meth c H locs 0 0 Q (F0 m 97 ls [.int y12, .int (x9 31), .int 31, .ref h1]) := by
        intro y12 H locs ls ey12 hP hD hS hl
        refine lv_iadd hx hb dX7_tick_97 ?_
        refine r_ast hx hb hK hP hD hS 1 0 rfl rfl 31 rfl (Nat.le_of_ble_eq_true rfl) (Nat.le_of_ble_eq_true rfl) dX7_tick_98 (fun H locs hP hD hS => ?_)
        obtain ⟨x13, ex13⟩ : ∃ zz_, zz_ = (upd x9 31 ((x9 31) + y12)) := ⟨_, rfl⟩
        have hP : va_P D vwCl [(h0, .inr (7, [.ref h1, .long me, .ref h2, .ref h3, .ref h4, .ref h5, .int tw])), (h1, .inl (cI, 165, .inl x13))] H := by rw [ex13]; exact hP
        have hD : va_D A [(h0, .inr (7, [.ref h1, .long me, .ref h2, .ref h3, .ref h4, .ref h5, .int tw])), (h1, .inl (cI, 165, .inl x13))] := by rw [ex13]; exact hD
        exact hret () _ _ _ _ _ _ _ (by subst ey12; subst ex13; first | with_reducible rfl | (simp only [a_h1_X7_tick, if_neg c5, if_neg c7]; done) | rfl) hP hD hS (Nat.le_of_ble_eq_true rfl) (Nat.le_of_ble_eq_true rfl) dX7_tick_99
      refine lv_icmp_ne (tgt := 96) hx hb dX7_tick_89 (by decide) (fun c11 => ?_) (fun c11 => ?_)
      · refine lv_iconst (v := 0) hx hb dX7_tick_96 (by decide) ?_
        exact K97 _ _ _ _ (by first | with_reducible rfl | (simp only [if_neg c11]; done) | rfl) (hP.sub [0, 1] rfl) (hD.sub [0, 1] (by decide) rfl) hS (lv_sub hl [0] rfl)
      · refine lv_iconst (v := 1) hx hb dX7_tick_92 (by decide) ?_
        refine lv_goto (tgt := 97) hx hb dX7_tick_93 (by decide) ?_
        exact K97 _ _ _ _ (by first | with_reducible rfl | (simp only [if_pos c11]; done) | rfl) (hP.sub [0, 1] rfl) (hD.sub [0, 1] (by decide) rfl) hS (lv_sub hl [0] rfl)
    · refine lv_aload_n hx hb dX7_tick_46 rfl (lv_at hl 0 rfl) ?_
      refine call_v (wr := []) (k := 0) (n := 0) (run_V (As := []) (rest := []) ⟨hx, hb, hml, hown, hts⟩ (mX7_await l D cI cJ cZ cO h0 h1 h2 h3 h4 h5 me tw x3 z q k30x3 hz8 k32x3 hq2 H.size) (cwV 0 hts gX7_tick_X7_await rfl rfl rfl (by decide +kernel) ⟨Nat.le_of_ble_eq_true rfl, Nat.le_of_ble_eq_true rfl⟩) hK hN hP hD [0, 1] (by decide) rfl 7 0 rfl rfl rfl rfl rfl hl.1 (Nat.le_of_ble_eq_true rfl) dX7_tick_47 ⟨Nat.le_of_ble_eq_true rfl, Nat.le_of_ble_eq_true rfl⟩) hP hD hS hA [0, 1] [] rfl rfl (by decide) (by decide) (Nat.le_of_ble_eq_true rfl) (Nat.le_of_ble_eq_true rfl) (fun _ H locs hP hD hS => ?_)
      have hP : va_P D vwCl [(h0, .inr (7, [.ref h1, .long me, .ref h2, .ref h3, .ref h4, .ref h5, .int tw])), (h1, .inl (cI, 165, .inl x14))] H := by rw [ex14]; exact hP
      have hD : va_D A [(h0, .inr (7, [.ref h1, .long me, .ref h2, .ref h3, .ref h4, .ref h5, .int tw])), (h1, .inl (cI, 165, .inl x14))] := by rw [ex14]; exact hD
      refine lv_aload_n hx hb dX7_tick_50 rfl (lv_at hl 0 rfl) ?_
      refine va_get (D := D) (ci := 7) (v := .ref h1) (C := RX7) (T := TX7) (N := 7) hx hb hts hi7 hown hK hP 0 rfl rfl 0 (by decide) (hts (.fieldLink RX7 7 "GridInverterModel" "at" "[I") (by decide +kernel)) (fun _ h9 => h9) rfl dX7_tick_51 ?_
      refine lv_bipush (v := 33) hx hb dX7_tick_54 (by decide) ?_
      refine lv_aload_n hx hb dX7_tick_56 rfl (lv_at hl 0 rfl) ?_
      refine va_get (D := D) (ci := 7) (v := .ref h1) (C := RX7) (T := TX7) (N := 7) hx hb hts hi7 hown hK hP 0 rfl rfl 0 (by decide) (hts (.fieldLink RX7 7 "GridInverterModel" "at" "[I") (by decide +kernel)) (fun _ h9 => h9) rfl dX7_tick_57 ?_
      refine lv_iconst (v := 0) hx hb dX7_tick_60 (by decide) ?_
      refine r_ald hx hb hK hP 1 0 rfl rfl 0 rfl (Nat.le_of_ble_eq_true rfl) (Nat.le_of_ble_eq_true rfl) (v := (x14 0)) rfl dX7_tick_61 ?_
      refine lv_bipush (v := 20) hx hb dX7_tick_62 (by decide) ?_
      refine lv_irem hx hb dX7_tick_64 (by decide) ?_
      refine lv_tope ex15 ?_
      refine lv_iadd hx hb dX7_tick_65 ?_
      refine lv_aload_n hx hb dX7_tick_66 rfl (lv_at hl 0 rfl) ?_
      refine va_get (D := D) (ci := 7) (v := .ref h1) (C := RX7) (T := TX7) (N := 7) hx hb hts hi7 hown hK hP 0 rfl rfl 0 (by decide) (hts (.fieldLink RX7 7 "GridInverterModel" "at" "[I") (by decide +kernel)) (fun _ h9 => h9) rfl dX7_tick_67 ?_
      refine lv_iconst (v := 5) hx hb dX7_tick_70 (by decide) ?_
      refine r_ald hx hb hK hP 1 0 rfl rfl 5 rfl (Nat.le_of_ble_eq_true rfl) (Nat.le_of_ble_eq_true rfl) (v := (x14 5)) rfl dX7_tick_71 ?_
      refine r_ast hx hb hK hP hD hS 1 0 rfl rfl (33 + (t + 1) % 20) (by rw [ex15]; exact (rem_ix 33 20 k0x14 (by omega) (Nat.le_of_ble_eq_true rfl) (Nat.le_of_ble_eq_true rfl))) (by omega) (Nat.le_of_ble_eq_true rfl) dX7_tick_72 (fun H locs hP hD hS => ?_)
      have hP : va_P D vwCl [(h0, .inr (7, [.ref h1, .long me, .ref h2, .ref h3, .ref h4, .ref h5, .int tw])), (h1, .inl (cI, 165, .inl x16))] H := by rw [ex16]; exact hP
      have hD : va_D A [(h0, .inr (7, [.ref h1, .long me, .ref h2, .ref h3, .ref h4, .ref h5, .int tw])), (h1, .inl (cI, 165, .inl x16))] := by rw [ex16]; exact hD
      refine lv_aload_n hx hb dX7_tick_73 rfl (lv_at hl 0 rfl) ?_
      refine va_get (D := D) (ci := 7) (v := .ref h1) (C := RX7) (T := TX7) (N := 7) hx hb hts hi7 hown hK hP 0 rfl rfl 0 (by decide) (hts (.fieldLink RX7 7 "GridInverterModel" "at" "[I") (by decide +kernel)) (fun _ h9 => h9) rfl dX7_tick_74 ?_
      refine lv_bipush (v := 31) hx hb dX7_tick_77 (by decide) ?_
      refine lv_dup2_11 hx hb dX7_tick_79 rfl rfl ?_
      refine r_ald hx hb hK hP 1 0 rfl rfl 31 rfl (Nat.le_of_ble_eq_true rfl) (Nat.le_of_ble_eq_true rfl) (v := (x16 31)) rfl dX7_tick_80 ?_
      refine lv_aload_n hx hb dX7_tick_81 rfl (lv_at hl 0 rfl) ?_
      refine va_get (D := D) (ci := 7) (v := .ref h1) (C := RX7) (T := TX7) (N := 7) hx hb hts hi7 hown hK hP 0 rfl rfl 0 (by decide) (hts (.fieldLink RX7 7 "GridInverterModel" "at" "[I") (by decide +kernel)) (fun _ h9 => h9) rfl dX7_tick_82 ?_
      refine lv_bipush (v := 20) hx hb dX7_tick_85 (by decide) ?_
      refine r_ald hx hb hK hP 1 0 rfl rfl 20 rfl (Nat.le_of_ble_eq_true rfl) (Nat.le_of_ble_eq_true rfl) (v := (x16 20)) rfl dX7_tick_87 ?_
      refine lv_iconst (v := 1) hx hb dX7_tick_88 (by decide) ?_
      have K97 : ∀ (y19 : Int32) (H : Heap) (locs : List Loc) (ls : Array Slot), y19 = (if (x16 20) = 1 then 1 else 0 : Int32) → va_P D vwCl [(h0, .inr (7, [.ref h1, .long me, .ref h2, .ref h3, .ref h4, .ref h5, .int tw])), (h1, .inl (cI, 165, .inl x16))] H → va_D A [(h0, .inr (7, [.ref h1, .long me, .ref h2, .ref h3, .ref h4, .ref h5, .int tw])), (h1, .inl (cI, 165, .inl x16))] → va_S A s.heap H locs → lv_has ls 1 [(0, .ref h0)] → W p l e ({ frames := 3, cells := 0, slots := 0, locals := 64 } : Room) s m args below meth c H locs 0 0 Q (F0 m 97 ls [.int y19, .int (x16 31), .int 31, .ref h1]) := by
        intro y19 H locs ls ey19 hP hD hS hl
        refine lv_iadd hx hb dX7_tick_97 ?_
        refine r_ast hx hb hK hP hD hS 1 0 rfl rfl 31 rfl (Nat.le_of_ble_eq_true rfl) (Nat.le_of_ble_eq_true rfl) dX7_tick_98 (fun H locs hP hD hS => ?_)
        obtain ⟨x20, ex20⟩ : ∃ zz_, zz_ = (upd x16 31 ((x16 31) + y19)) := ⟨_, rfl⟩
        have hP : va_P D vwCl [(h0, .inr (7, [.ref h1, .long me, .ref h2, .ref h3, .ref h4, .ref h5, .int tw])), (h1, .inl (cI, 165, .inl x20))] H := by rw [ex20]; exact hP
        have hD : va_D A [(h0, .inr (7, [.ref h1, .long me, .ref h2, .ref h3, .ref h4, .ref h5, .int tw])), (h1, .inl (cI, 165, .inl x20))] := by rw [ex20]; exact hD
        exact hret () _ _ _ _ _ _ _ (by subst ey19; subst ex20; first | with_reducible rfl | (simp only [a_h1_X7_tick, if_neg c5, if_pos c7]; done) | rfl) hP hD hS (Nat.le_of_ble_eq_true rfl) (Nat.le_of_ble_eq_true rfl) dX7_tick_99
      refine lv_icmp_ne (tgt := 96) hx hb dX7_tick_89 (by decide) (fun c18 => ?_) (fun c18 => ?_)
      · refine lv_iconst (v := 0) hx hb dX7_tick_96 (by decide) ?_
        exact K97 _ _ _ _ (by first | with_reducible rfl | (simp only [if_neg c18]; done) | rfl) (hP.sub [0, 1] rfl) (hD.sub [0, 1] (by decide) rfl) hS (lv_sub hl [0] rfl)
      · refine lv_iconst (v := 1) hx hb dX7_tick_92 (by decide) ?_
        refine lv_goto (tgt := 97) hx hb dX7_tick_93 (by decide) ?_
        exact K97 _ _ _ _ (by first | with_reducible rfl | (simp only [if_pos c18]; done) | rfl) (hP.sub [0, 1] rfl) (hD.sub [0, 1] (by decide) rfl) hS (lv_sub hl [0] rfl)
  · refine lv_aload_n hx hb dX7_tick_29 rfl (lv_at hl 0 rfl) ?_
    refine call_v (wr := []) (k := 0) (n := 0) (run_V (As := []) (rest := []) ⟨hx, hb, hml, hown, hts⟩ (mX7_run l D cI cJ cZ cO h0 h1 h2 h3 h4 h5 me tw x3 (t + 1) z q k0x3 (by omega) k30x3 hz8 k32x3 hq2 H.size) (cwV 0 hts gX7_tick_X7_run rfl rfl rfl (by decide +kernel) ⟨Nat.le_of_ble_eq_true rfl, Nat.le_of_ble_eq_true rfl⟩) hK hN hP hD [0, 1] (by decide) rfl 7 0 rfl rfl rfl rfl rfl hl.1 (Nat.le_of_ble_eq_true rfl) dX7_tick_30 ⟨Nat.le_of_ble_eq_true rfl, Nat.le_of_ble_eq_true rfl⟩) hP hD hS hA [0, 1] [] rfl rfl (by decide) (by decide) (Nat.le_of_ble_eq_true rfl) (Nat.le_of_ble_eq_true rfl) (fun _ H locs hP hD hS => ?_)
    have hP : va_P D vwCl [(h0, .inr (7, [.ref h1, .long me, .ref h2, .ref h3, .ref h4, .ref h5, .int tw])), (h1, .inl (cI, 165, .inl x21))] H := by rw [ex21]; exact hP
    have hD : va_D A [(h0, .inr (7, [.ref h1, .long me, .ref h2, .ref h3, .ref h4, .ref h5, .int tw])), (h1, .inl (cI, 165, .inl x21))] := by rw [ex21]; exact hD
    refine lv_goto (tgt := 50) hx hb dX7_tick_33 (by decide) ?_
    refine lv_aload_n hx hb dX7_tick_50 rfl (lv_at hl 0 rfl) ?_
    refine va_get (D := D) (ci := 7) (v := .ref h1) (C := RX7) (T := TX7) (N := 7) hx hb hts hi7 hown hK hP 0 rfl rfl 0 (by decide) (hts (.fieldLink RX7 7 "GridInverterModel" "at" "[I") (by decide +kernel)) (fun _ h9 => h9) rfl dX7_tick_51 ?_
    refine lv_bipush (v := 33) hx hb dX7_tick_54 (by decide) ?_
    refine lv_aload_n hx hb dX7_tick_56 rfl (lv_at hl 0 rfl) ?_
    refine va_get (D := D) (ci := 7) (v := .ref h1) (C := RX7) (T := TX7) (N := 7) hx hb hts hi7 hown hK hP 0 rfl rfl 0 (by decide) (hts (.fieldLink RX7 7 "GridInverterModel" "at" "[I") (by decide +kernel)) (fun _ h9 => h9) rfl dX7_tick_57 ?_
    refine lv_iconst (v := 0) hx hb dX7_tick_60 (by decide) ?_
    refine r_ald hx hb hK hP 1 0 rfl rfl 0 rfl (Nat.le_of_ble_eq_true rfl) (Nat.le_of_ble_eq_true rfl) (v := (x21 0)) rfl dX7_tick_61 ?_
    refine lv_bipush (v := 20) hx hb dX7_tick_62 (by decide) ?_
    refine lv_irem hx hb dX7_tick_64 (by decide) ?_
    refine lv_tope ex22 ?_
    refine lv_iadd hx hb dX7_tick_65 ?_
    refine lv_aload_n hx hb dX7_tick_66 rfl (lv_at hl 0 rfl) ?_
    refine va_get (D := D) (ci := 7) (v := .ref h1) (C := RX7) (T := TX7) (N := 7) hx hb hts hi7 hown hK hP 0 rfl rfl 0 (by decide) (hts (.fieldLink RX7 7 "GridInverterModel" "at" "[I") (by decide +kernel)) (fun _ h9 => h9) rfl dX7_tick_67 ?_
    refine lv_iconst (v := 5) hx hb dX7_tick_70 (by decide) ?_
    refine r_ald hx hb hK hP 1 0 rfl rfl 5 rfl (Nat.le_of_ble_eq_true rfl) (Nat.le_of_ble_eq_true rfl) (v := (x21 5)) rfl dX7_tick_71 ?_
    refine r_ast hx hb hK hP hD hS 1 0 rfl rfl (33 + (t + 1) % 20) (by rw [ex22]; exact (rem_ix 33 20 k0x21 (by omega) (Nat.le_of_ble_eq_true rfl) (Nat.le_of_ble_eq_true rfl))) (by omega) (Nat.le_of_ble_eq_true rfl) dX7_tick_72 (fun H locs hP hD hS => ?_)
    have hP : va_P D vwCl [(h0, .inr (7, [.ref h1, .long me, .ref h2, .ref h3, .ref h4, .ref h5, .int tw])), (h1, .inl (cI, 165, .inl x23))] H := by rw [ex23]; exact hP
    have hD : va_D A [(h0, .inr (7, [.ref h1, .long me, .ref h2, .ref h3, .ref h4, .ref h5, .int tw])), (h1, .inl (cI, 165, .inl x23))] := by rw [ex23]; exact hD
    refine lv_aload_n hx hb dX7_tick_73 rfl (lv_at hl 0 rfl) ?_
    refine va_get (D := D) (ci := 7) (v := .ref h1) (C := RX7) (T := TX7) (N := 7) hx hb hts hi7 hown hK hP 0 rfl rfl 0 (by decide) (hts (.fieldLink RX7 7 "GridInverterModel" "at" "[I") (by decide +kernel)) (fun _ h9 => h9) rfl dX7_tick_74 ?_
    refine lv_bipush (v := 31) hx hb dX7_tick_77 (by decide) ?_
    refine lv_dup2_11 hx hb dX7_tick_79 rfl rfl ?_
    refine r_ald hx hb hK hP 1 0 rfl rfl 31 rfl (Nat.le_of_ble_eq_true rfl) (Nat.le_of_ble_eq_true rfl) (v := (x23 31)) rfl dX7_tick_80 ?_
    refine lv_aload_n hx hb dX7_tick_81 rfl (lv_at hl 0 rfl) ?_
    refine va_get (D := D) (ci := 7) (v := .ref h1) (C := RX7) (T := TX7) (N := 7) hx hb hts hi7 hown hK hP 0 rfl rfl 0 (by decide) (hts (.fieldLink RX7 7 "GridInverterModel" "at" "[I") (by decide +kernel)) (fun _ h9 => h9) rfl dX7_tick_82 ?_
    refine lv_bipush (v := 20) hx hb dX7_tick_85 (by decide) ?_
    refine r_ald hx hb hK hP 1 0 rfl rfl 20 rfl (Nat.le_of_ble_eq_true rfl) (Nat.le_of_ble_eq_true rfl) (v := (x23 20)) rfl dX7_tick_87 ?_
    refine lv_iconst (v := 1) hx hb dX7_tick_88 (by decide) ?_
    have K97 : ∀ (y26 : Int32) (H : Heap) (locs : List Loc) (ls : Array Slot), y26 = (if (x23 20) = 1 then 1 else 0 : Int32) → va_P D vwCl [(h0, .inr (7, [.ref h1, .long me, .ref h2, .ref h3, .ref h4, .ref h5, .int tw])), (h1, .inl (cI, 165, .inl x23))] H → va_D A [(h0, .inr (7, [.ref h1, .long me, .ref h2, .ref h3, .ref h4, .ref h5, .int tw])), (h1, .inl (cI, 165, .inl x23))] → va_S A s.heap H locs → lv_has ls 1 [(0, .ref h0)] → W p l e ({ frames := 3, cells := 0, slots := 0, locals := 64 } : Room) s m args below meth c H locs 0 0 Q (F0 m 97 ls [.int y26, .int (x23 31), .int 31, .ref h1]) := by
      intro y26 H locs ls ey26 hP hD hS hl
      refine lv_iadd hx hb dX7_tick_97 ?_
      refine r_ast hx hb hK hP hD hS 1 0 rfl rfl 31 rfl (Nat.le_of_ble_eq_true rfl) (Nat.le_of_ble_eq_true rfl) dX7_tick_98 (fun H locs hP hD hS => ?_)
      obtain ⟨x27, ex27⟩ : ∃ zz_, zz_ = (upd x23 31 ((x23 31) + y26)) := ⟨_, rfl⟩
      have hP : va_P D vwCl [(h0, .inr (7, [.ref h1, .long me, .ref h2, .ref h3, .ref h4, .ref h5, .int tw])), (h1, .inl (cI, 165, .inl x27))] H := by rw [ex27]; exact hP
      have hD : va_D A [(h0, .inr (7, [.ref h1, .long me, .ref h2, .ref h3, .ref h4, .ref h5, .int tw])), (h1, .inl (cI, 165, .inl x27))] := by rw [ex27]; exact hD
      exact hret () _ _ _ _ _ _ _ (by subst ey26; subst ex27; first | with_reducible rfl | (simp only [a_h1_X7_tick, if_pos c5]; done) | rfl) hP hD hS (Nat.le_of_ble_eq_true rfl) (Nat.le_of_ble_eq_true rfl) dX7_tick_99
    refine lv_icmp_ne (tgt := 96) hx hb dX7_tick_89 (by decide) (fun c25 => ?_) (fun c25 => ?_)
    · refine lv_iconst (v := 0) hx hb dX7_tick_96 (by decide) ?_
      exact K97 _ _ _ _ (by first | with_reducible rfl | (simp only [if_neg c25]; done) | rfl) (hP.sub [0, 1] rfl) (hD.sub [0, 1] (by decide) rfl) hS (lv_sub hl [0] rfl)
    · refine lv_iconst (v := 1) hx hb dX7_tick_92 (by decide) ?_
      refine lv_goto (tgt := 97) hx hb dX7_tick_93 (by decide) ?_
      exact K97 _ _ _ _ (by first | with_reducible rfl | (simp only [if_pos c25]; done) | rfl) (hP.sub [0, 1] rfl) (hD.sub [0, 1] (by decide) rfl) hS (lv_sub hl [0] rfl)
