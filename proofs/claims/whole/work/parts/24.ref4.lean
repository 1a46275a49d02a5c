def r_X7_tryIsland (f : Nat → Int32) (p0 : Int32) (p1 : Int32) (p2 : Int32) (nn : Nat) : Int32 := (if ((itf (isG f p0 p1 p2) (islE f p0 p1 p2 nn)) 20) = 1 then (-1) else (nI (islE f p0 p1 p2 nn)) : Int32)
def a_h2_X7_tryIsland (f : Nat → Int32) (as : Nat → Int32) : Nat → Int32 := (a_h2_X7_putAside f as)
set_option maxHeartbeats 4000000 in
set_option maxRecDepth 100000 in
theorem mX7_tryIsland (l : Launch) (D : va_G) (cI cJ cZ cO : ClassId) (h0 : Nat) (h1 : Nat) (h2 : Nat) (h3 : Nat) (h4 : Nat) (h5 : Nat) (me : Int64) (tw : Int32) (f : Nat → Int32) (as : Nat → Int32) (p0 : Int32) (p1 : Int32) (p2 : Int32) (p3 : Int32) (B : Nat) (nn : Nat) (hO : Ok (isG f p0 p1 p2) B) (hB : B + 2000 < 2147483647) (hn : p3 = nI nn) (hn2 : nn ≤ 2000) : MI l yX7_tryIsland wsX7_tryIsland ({ frames := 4, cells := 0, slots := 0, locals := 84 } : Room) D (tysK cI cJ cZ cO) [.ref h0, .int p0, .int p1, .int p2, .int p3] [(h0, .inr (7, [.ref h1, .long me, .ref h2, .ref h3, .ref h4, .ref h5, .int tw])), (h1, .inl (cI, 165, .inl f)), (h2, .inl (cI, 165, .inl as))] (r_X7_tryIsland f p0 p1 p2 nn) [(h0, .inr (7, [.ref h1, .long me, .ref h2, .ref h3, .ref h4, .ref h5, .int tw])), (h1, .inl (cI, 165, .inl f)), (h2, .inl (cI, 165, .inl (a_h2_X7_tryIsland f as)))] := by
  refine MI.of (cc := cX7_tryIsland) (maxL := 7) (ret := .int) (by decide) rfl (Nat.le_of_ble_eq_true rfl) rfl ?_
  intro p e s m args below meth c A Q ls H locs B hS hP hD hl hret
  obtain ⟨hx, hb, hml, hown, hts, hK, hN, hA, hlocks⟩ := B
  have hi7 : ∀ w ∈ u_ws RX7 TX7 7, w ∈ wsX7_tryIsland := by decide +kernel
  have hl : lv_has ls 7 [(0, .ref h0), (1, .int p0), (2, .int p1), (3, .int p2), (4, .int p3)] := hl
  refine lv_aload_n hx hb dX7_tryIsland_0 rfl (lv_at hl 0 rfl) ?_
  refine call_v (wr := []) (k := 0) (n := 0) (run_V (As := []) (rest := []) ⟨hx, hb, hml, hown, hts⟩ (mX7_putAside l D cI cJ cZ cO h0 h1 h2 h3 h4 h5 me tw f as H.size) (cwV 0 hts gX7_tryIsland_X7_putAside rfl rfl rfl (by decide +kernel) ⟨Nat.le_of_ble_eq_true rfl, Nat.le_of_ble_eq_true rfl⟩) hK hN hP hD [0, 1, 2] (by decide) rfl 7 0 rfl rfl rfl rfl rfl hl.1 (Nat.le_of_ble_eq_true rfl) dX7_tryIsland_1 ⟨Nat.le_of_ble_eq_true rfl, Nat.le_of_ble_eq_true rfl⟩) hP hD hS hA [0, 1, 2] [] rfl rfl (by decide) (by decide) (Nat.le_of_ble_eq_true rfl) (Nat.le_of_ble_eq_true rfl) (fun _ H locs hP hD hS => ?_)
  have hP : va_P D vwCl [(h0, .inr (7, [.ref h1, .long me, .ref h2, .ref h3, .ref h4, .ref h5, .int tw])), (h1, .inl (cI, 165, .inl f)), (h2, .inl (cI, 165, .inl (a_h2_X7_putAside f as)))] H := hP
  have hD : va_D A [(h0, .inr (7, [.ref h1, .long me, .ref h2, .ref h3, .ref h4, .ref h5, .int tw])), (h1, .inl (cI, 165, .inl f)), (h2, .inl (cI, 165, .inl (a_h2_X7_putAside f as)))] := hD
  refine lv_aload_n hx hb dX7_tryIsland_4 rfl (lv_at hl 0 rfl) ?_
  refine lv_iload_n hx hb dX7_tryIsland_5 rfl (lv_at hl 1 rfl) ?_
  refine lv_iload_n hx hb dX7_tryIsland_6 rfl (lv_at hl 2 rfl) ?_
  refine lv_iload_n hx hb dX7_tryIsland_7 rfl (lv_at hl 3 rfl) ?_
  refine call_v (wr := [(h2, .inl (cI, 165, .inl (a_h2_X7_putAside f as)))]) (k := 0) (n := 0) (run_V (As := [.int p0, .int p1, .int p2]) (rest := []) ⟨hx, hb, hml, hown, hts⟩ (mX7_becomeIsland l D cI cJ cZ cO h0 h1 h2 h3 h4 h5 me tw f p0 p1 p2 H.size) (cwV 3 hts gX7_tryIsland_X7_becomeIsland rfl rfl rfl (by decide +kernel) ⟨Nat.le_of_ble_eq_true rfl, Nat.le_of_ble_eq_true rfl⟩) hK hN hP hD [0, 1] (by decide) rfl 7 0 rfl rfl rfl rfl rfl hl.1 (Nat.le_of_ble_eq_true rfl) dX7_tryIsland_8 ⟨Nat.le_of_ble_eq_true rfl, Nat.le_of_ble_eq_true rfl⟩) hP hD hS hA [0, 1] [2] rfl rfl (by decide) (by decide) (Nat.le_of_ble_eq_true rfl) (Nat.le_of_ble_eq_true rfl) (fun _ H locs hP hD hS => ?_)
  obtain ⟨x1, ex1⟩ : ∃ zz_, zz_ = (a_h1_X7_becomeIsland f p0 p1 p2) := ⟨_, rfl⟩
  have hP : va_P D vwCl [(h2, .inl (cI, 165, .inl (a_h2_X7_putAside f as))), (h0, .inr (7, [.ref h1, .long me, .ref h2, .ref h3, .ref h4, .ref h5, .int tw])), (h1, .inl (cI, 165, .inl x1))] H := by rw [ex1]; exact hP
  have hD : va_D A [(h2, .inl (cI, 165, .inl (a_h2_X7_putAside f as))), (h0, .inr (7, [.ref h1, .long me, .ref h2, .ref h3, .ref h4, .ref h5, .int tw])), (h1, .inl (cI, 165, .inl x1))] := by rw [ex1]; exact hD
  refine lv_aload_n hx hb dX7_tryIsland_11 rfl (lv_at hl 0 rfl) ?_
  refine va_get (D := D) (ci := 7) (v := .ref h1) (C := RX7) (T := TX7) (N := 7) hx hb hts hi7 hown hK hP 1 rfl rfl 0 (by decide) (hts (.fieldLink RX7 7 "GridInverterModel" "at" "[I") (by decide +kernel)) (fun _ h9 => h9) rfl dX7_tryIsland_12 ?_
  refine lv_bipush (v := 10) hx hb dX7_tryIsland_15 (by decide) ?_
  refine lv_iconst (v := 0) hx hb dX7_tryIsland_17 (by decide) ?_
  refine r_ast hx hb hK hP hD hS 2 0 rfl rfl 10 rfl (Nat.le_of_ble_eq_true rfl) (Nat.le_of_ble_eq_true rfl) dX7_tryIsland_18 (fun H locs hP hD hS => ?_)
  have hP : va_P D vwCl [(h2, .inl (cI, 165, .inl (a_h2_X7_putAside f as))), (h0, .inr (7, [.ref h1, .long me, .ref h2, .ref h3, .ref h4, .ref h5, .int tw])), (h1, .inl (cI, 165, .inl (upd x1 10 0)))] H := hP
  have hD : va_D A [(h2, .inl (cI, 165, .inl (a_h2_X7_putAside f as))), (h0, .inr (7, [.ref h1, .long me, .ref h2, .ref h3, .ref h4, .ref h5, .int tw])), (h1, .inl (cI, 165, .inl (upd x1 10 0)))] := hD
  refine lv_iconst (v := 0) hx hb dX7_tryIsland_19 (by decide) ?_
  refine lv_istore (lv' := [(5, .int 0), (0, .ref h0), (1, .int p0), (2, .int p1), (3, .int p2), (4, .int p3)]) hx hb dX7_tryIsland_20 hl (by decide) rfl (fun ls hl => ?_)
  have L22 : ∀ (n i : Nat) (H : Heap) (locs : List Loc) (ls : Array Slot), i ≤ nn → nn + 1 ≤ i + n → stF (fun j => ¬ (itf (isG f p0 p1 p2) j) 20 = 1) (nn - i) i = (islE f p0 p1 p2 nn) → va_P D vwCl [(h2, .inl (cI, 165, .inl (a_h2_X7_putAside f as))), (h0, .inr (7, [.ref h1, .long me, .ref h2, .ref h3, .ref h4, .ref h5, .int tw])), (h1, .inl (cI, 165, .inl (itf (isG f p0 p1 p2) i)))] H → va_D A [(h2, .inl (cI, 165, .inl (a_h2_X7_putAside f as))), (h0, .inr (7, [.ref h1, .long me, .ref h2, .ref h3, .ref h4, .ref h5, .int tw])), (h1, .inl (cI, 165, .inl (itf (isG f p0 p1 p2) i)))] → va_S A s.heap H locs → lv_has ls 7 [(0, .ref h0), (1, .int p0), (2, .int p1), (3, .int p2), (4, .int p3), (5, .int (nI i))] → W p l e ({ frames := 4, cells := 0, slots := 0, locals := 84 } : Room) s m args below meth c H locs 0 0 Q (F0 m 22 ls []) := by
    intro n
    induction n with
    | zero => intro i H locs ls hi hin; exact absurd hin (by omega)
    | succ n ih =>
      intro i H locs ls hi hin he hP hD hS hl
      refine lv_iload hx hb dX7_tryIsland_22 (lv_at hl 5 rfl) ?_
      refine lv_iload hx hb dX7_tryIsland_24 (lv_at hl 4 rfl) ?_
      refine lv_icmp_ge (tgt := 50) hx hb dX7_tryIsland_26 (by decide) (fun c2 => ?_) (fun c2 => ?_)
      · have hiN : (islE f p0 p1 p2 nn) = i := st_top he (gd_ex hn (by omega) hi c2)
        subst hiN
        have hP : va_P D vwCl [(h2, .inl (cI, 165, .inl (a_h2_X7_putAside f as))), (h0, .inr (7, [.ref h1, .long me, .ref h2, .ref h3, .ref h4, .ref h5, .int tw])), (h1, .inl (cI, 165, .inl (itf (isG f p0 p1 p2) (islE f p0 p1 p2 nn))))] H := hP
        have hD : va_D A [(h2, .inl (cI, 165, .inl (a_h2_X7_putAside f as))), (h0, .inr (7, [.ref h1, .long me, .ref h2, .ref h3, .ref h4, .ref h5, .int tw])), (h1, .inl (cI, 165, .inl (itf (isG f p0 p1 p2) (islE f p0 p1 p2 nn))))] := hD
        have hl : lv_has ls 7 [(0, .ref h0), (1, .int p0), (2, .int p1), (3, .int p2), (4, .int p3), (5, .int (nI (islE f p0 p1 p2 nn)))] := hl
        refine lv_aload_n hx hb dX7_tryIsland_50 rfl (lv_at hl 0 rfl) ?_
        refine va_get (D := D) (ci := 7) (v := .ref h1) (C := RX7) (T := TX7) (N := 7) hx hb hts hi7 hown hK hP 1 rfl rfl 0 (by decide) (hts (.fieldLink RX7 7 "GridInverterModel" "at" "[I") (by decide +kernel)) (fun _ h9 => h9) rfl dX7_tryIsland_51 ?_
        refine lv_bipush (v := 20) hx hb dX7_tryIsland_54 (by decide) ?_
        refine r_ald hx hb hK hP 2 0 rfl rfl 20 rfl (Nat.le_of_ble_eq_true rfl) (Nat.le_of_ble_eq_true rfl) (v := ((itf (isG f p0 p1 p2) (islE f p0 p1 p2 nn)) 20)) rfl dX7_tryIsland_56 ?_
        refine lv_topi (fun x3 ex3 => ?_)
        refine lv_iconst (v := 1) hx hb dX7_tryIsland_57 (by decide) ?_
        have K67 : ∀ (y6 : Int32) (H : Heap) (locs : List Loc) (ls : Array Slot), y6 = (if ((itf (isG f p0 p1 p2) (islE f p0 p1 p2 nn)) 20) = 1 then (-1) else (nI (islE f p0 p1 p2 nn)) : Int32) → va_P D vwCl [(h2, .inl (cI, 165, .inl (a_h2_X7_putAside f as))), (h0, .inr (7, [.ref h1, .long me, .ref h2, .ref h3, .ref h4, .ref h5, .int tw])), (h1, .inl (cI, 165, .inl (itf (isG f p0 p1 p2) (islE f p0 p1 p2 nn))))] H → va_D A [(h2, .inl (cI, 165, .inl (a_h2_X7_putAside f as))), (h0, .inr (7, [.ref h1, .long me, .ref h2, .ref h3, .ref h4, .ref h5, .int tw])), (h1, .inl (cI, 165, .inl (itf (isG f p0 p1 p2) (islE f p0 p1 p2 nn))))] → va_S A s.heap H locs → lv_has ls 7 [(0, .ref h0), (1, .int p0), (2, .int p1), (3, .int p2), (4, .int p3), (5, .int (nI (islE f p0 p1 p2 nn)))] → W p l e ({ frames := 4, cells := 0, slots := 0, locals := 84 } : Room) s m args below meth c H locs 0 0 Q (F0 m 67 ls [.int y6]) := by
          intro y6 H locs ls ey6 hP hD hS hl
          refine lv_istore (lv' := [(6, .int y6), (0, .ref h0), (1, .int p0), (2, .int p1), (3, .int p2), (4, .int p3), (5, .int (nI (islE f p0 p1 p2 nn)))]) hx hb dX7_tryIsland_67 hl (by decide) rfl (fun ls hl => ?_)
          refine lv_aload_n hx hb dX7_tryIsland_69 rfl (lv_at hl 1 rfl) ?_
          refine call_v (wr := []) (k := 0) (n := 0) (run_V (As := []) (rest := []) ⟨hx, hb, hml, hown, hts⟩ (mPB l D cI cJ cZ cO h0 h1 h2 h3 h4 h5 me tw (itf (isG f p0 p1 p2) (islE f p0 p1 p2 nn)) (a_h2_X7_putAside f as) f (fun k hk => by subst ex1; subst ex3; subst ey6; exact pa_at f as k hk) H.size) (cwV 0 hts gX7_tryIsland_X7_putBack rfl rfl rfl (by decide +kernel) ⟨Nat.le_of_ble_eq_true rfl, Nat.le_of_ble_eq_true rfl⟩) hK hN hP hD [1, 2, 0] (by decide) rfl 7 0 rfl rfl rfl rfl rfl hl.1 (Nat.le_of_ble_eq_true rfl) dX7_tryIsland_70 ⟨Nat.le_of_ble_eq_true rfl, Nat.le_of_ble_eq_true rfl⟩) hP hD hS hA [1, 2, 0] [] rfl rfl (by decide) (by decide) (Nat.le_of_ble_eq_true rfl) (Nat.le_of_ble_eq_true rfl) (fun _ H locs hP hD hS => ?_)
          have hP : va_P D vwCl [(h0, .inr (7, [.ref h1, .long me, .ref h2, .ref h3, .ref h4, .ref h5, .int tw])), (h1, .inl (cI, 165, .inl f)), (h2, .inl (cI, 165, .inl (a_h2_X7_putAside f as)))] H := hP
          have hD : va_D A [(h0, .inr (7, [.ref h1, .long me, .ref h2, .ref h3, .ref h4, .ref h5, .int tw])), (h1, .inl (cI, 165, .inl f)), (h2, .inl (cI, 165, .inl (a_h2_X7_putAside f as)))] := hD
          refine lv_iload hx hb dX7_tryIsland_73 (lv_at hl 0 rfl) ?_
          exact hret _ _ _ _ _ _ _ _ (by subst ex1; subst ex3; subst ey6; first | with_reducible rfl | (simp only [r_X7_tryIsland, a_h2_X7_tryIsland]; done) | rfl) (by subst ex1; subst ex3; subst ey6; first | with_reducible rfl | (simp only [r_X7_tryIsland, a_h2_X7_tryIsland]; done) | rfl) hP hD hS (Nat.le_of_ble_eq_true rfl) (Nat.le_of_ble_eq_true rfl) dX7_tryIsland_75
        refine lv_icmp_ne (tgt := 65) hx hb dX7_tryIsland_58 (by decide) (fun c5 => ?_) (fun c5 => ?_)
        · refine lv_iload hx hb dX7_tryIsland_65 (lv_at hl 5 rfl) ?_
          exact K67 _ _ _ _ (by subst ex1; subst ex3; first | with_reducible rfl | (simp only [if_neg c5]; done) | rfl) (hP.sub [0, 1, 2] rfl) (hD.sub [0, 1, 2] (by decide) rfl) hS (lv_sub hl [0, 1, 2, 3, 4, 5] rfl)
        · refine lv_iconst (v := (-1)) hx hb dX7_tryIsland_61 (by decide) ?_
          refine lv_goto (tgt := 67) hx hb dX7_tryIsland_62 (by decide) ?_
          exact K67 _ _ _ _ (by subst ex1; subst ex3; first | with_reducible rfl | (simp only [if_pos c5]; done) | rfl) (hP.sub [0, 1, 2] rfl) (hD.sub [0, 1, 2] (by decide) rfl) hS (lv_sub hl [0, 1, 2, 3, 4, 5] rfl)
      · have hiN : i < nn := gd_in hn (by omega) hi c2
        refine lv_aload_n hx hb dX7_tryIsland_29 rfl (lv_at hl 0 rfl) ?_
        refine va_get (D := D) (ci := 7) (v := .ref h1) (C := RX7) (T := TX7) (N := 7) hx hb hts hi7 hown hK hP 1 rfl rfl 0 (by decide) (hts (.fieldLink RX7 7 "GridInverterModel" "at" "[I") (by decide +kernel)) (fun _ h9 => h9) rfl dX7_tryIsland_30 ?_
        refine lv_bipush (v := 20) hx hb dX7_tryIsland_33 (by decide) ?_
        refine r_ald hx hb hK hP 2 0 rfl rfl 20 rfl (Nat.le_of_ble_eq_true rfl) (Nat.le_of_ble_eq_true rfl) (v := ((itf (isG f p0 p1 p2) i) 20)) rfl dX7_tryIsland_35 ?_
        refine lv_topi (fun x7 ex7 => ?_)
        refine lv_iconst (v := 1) hx hb dX7_tryIsland_36 (by decide) ?_
        refine lv_icmp_ne (tgt := 50) hx hb dX7_tryIsland_37 (by decide) (fun c8 => ?_) (fun c8 => ?_)
        · have hiN : (islE f p0 p1 p2 nn) = i := st_hit he hiN (by subst ex1; subst ex7; exact c8)
          subst hiN
          have hP : va_P D vwCl [(h2, .inl (cI, 165, .inl (a_h2_X7_putAside f as))), (h0, .inr (7, [.ref h1, .long me, .ref h2, .ref h3, .ref h4, .ref h5, .int tw])), (h1, .inl (cI, 165, .inl (itf (isG f p0 p1 p2) (islE f p0 p1 p2 nn))))] H := hP
          have hD : va_D A [(h2, .inl (cI, 165, .inl (a_h2_X7_putAside f as))), (h0, .inr (7, [.ref h1, .long me, .ref h2, .ref h3, .ref h4, .ref h5, .int tw])), (h1, .inl (cI, 165, .inl (itf (isG f p0 p1 p2) (islE f p0 p1 p2 nn))))] := hD
          have hl : lv_has ls 7 [(0, .ref h0), (1, .int p0), (2, .int p1), (3, .int p2), (4, .int p3), (5, .int (nI (islE f p0 p1 p2 nn)))] := hl
          refine lv_aload_n hx hb dX7_tryIsland_50 rfl (lv_at hl 0 rfl) ?_
          refine va_get (D := D) (ci := 7) (v := .ref h1) (C := RX7) (T := TX7) (N := 7) hx hb hts hi7 hown hK hP 1 rfl rfl 0 (by decide) (hts (.fieldLink RX7 7 "GridInverterModel" "at" "[I") (by decide +kernel)) (fun _ h9 => h9) rfl dX7_tryIsland_51 ?_
          refine lv_bipush (v := 20) hx hb dX7_tryIsland_54 (by decide) ?_
          refine r_ald hx hb hK hP 2 0 rfl rfl 20 rfl (Nat.le_of_ble_eq_true rfl) (Nat.le_of_ble_eq_true rfl) (v := ((itf (isG f p0 p1 p2) (islE f p0 p1 p2 nn)) 20)) rfl dX7_tryIsland_56 ?_
          refine lv_topi (fun x9 ex9 => ?_)
          refine lv_iconst (v := 1) hx hb dX7_tryIsland_57 (by decide) ?_
          have K67 : ∀ (y12 : Int32) (H : Heap) (locs : List Loc) (ls : Array Slot), y12 = (if ((itf (isG f p0 p1 p2) (islE f p0 p1 p2 nn)) 20) = 1 then (-1) else (nI (islE f p0 p1 p2 nn)) : Int32) → va_P D vwCl [(h2, .inl (cI, 165, .inl (a_h2_X7_putAside f as))), (h0, .inr (7, [.ref h1, .long me, .ref h2, .ref h3, .ref h4, .ref h5, .int tw])), (h1, .inl (cI, 165, .inl (itf (isG f p0 p1 p2) (islE f p0 p1 p2 nn))))] H → va_D A [(h2, .inl (cI, 165, .inl (a_h2_X7_putAside f as))), (h0, .inr (7, [.ref h1, .long me, .ref h2, .ref h3, .ref h4, .ref h5, .int tw])), (h1, .inl (cI, 165, .inl (itf (isG f p0 p1 p2) (islE f p0 p1 p2 nn))))] → va_S A s.heap H locs → lv_has ls 7 [(0, .ref h0), (1, .int p0), (2, .int p1), (3, .int p2), (4, .int p3), (5, .int (nI (islE f p0 p1 p2 nn)))] → W p l e ({ frames := 4, cells := 0, slots := 0, locals := 84 } : Room) s m args below meth c H locs 0 0 Q (F0 m 67 ls [.int y12]) := by
            intro y12 H locs ls ey12 hP hD hS hl
            refine lv_istore (lv' := [(6, .int y12), (0, .ref h0), (1, .int p0), (2, .int p1), (3, .int p2), (4, .int p3), (5, .int (nI (islE f p0 p1 p2 nn)))]) hx hb dX7_tryIsland_67 hl (by decide) rfl (fun ls hl => ?_)
            refine lv_aload_n hx hb dX7_tryIsland_69 rfl (lv_at hl 1 rfl) ?_
            refine call_v (wr := []) (k := 0) (n := 0) (run_V (As := []) (rest := []) ⟨hx, hb, hml, hown, hts⟩ (mPB l D cI cJ cZ cO h0 h1 h2 h3 h4 h5 me tw (itf (isG f p0 p1 p2) (islE f p0 p1 p2 nn)) (a_h2_X7_putAside f as) f (fun k hk => by subst ex1; subst ex7; subst ex9; subst ey12; exact pa_at f as k hk) H.size) (cwV 0 hts gX7_tryIsland_X7_putBack rfl rfl rfl (by decide +kernel) ⟨Nat.le_of_ble_eq_true rfl, Nat.le_of_ble_eq_true rfl⟩) hK hN hP hD [1, 2, 0] (by decide) rfl 7 0 rfl rfl rfl rfl rfl hl.1 (Nat.le_of_ble_eq_true rfl) dX7_tryIsland_70 ⟨Nat.le_of_ble_eq_true rfl, Nat.le_of_ble_eq_true rfl⟩) hP hD hS hA [1, 2, 0] [] rfl rfl (by decide) (by decide) (Nat.le_of_ble_eq_true rfl) (Nat.le_of_ble_eq_true rfl) (fun _ H locs hP hD hS => ?_)
            have hP : va_P D vwCl [(h0, .inr (7, [.ref h1, .long me, .ref h2, .ref h3, .ref h4, .ref h5, .int tw])), (h1, .inl (cI, 165, .inl f)), (h2, .inl (cI, 165, .inl (a_h2_X7_putAside f as)))] H := hP
            have hD : va_D A [(h0, .inr (7, [.ref h1, .long me, .ref h2, .ref h3, .ref h4, .ref h5, .int tw])), (h1, .inl (cI, 165, .inl f)), (h2, .inl (cI, 165, .inl (a_h2_X7_putAside f as)))] := hD
            refine lv_iload hx hb dX7_tryIsland_73 (lv_at hl 0 rfl) ?_
            exact hret _ _ _ _ _ _ _ _ (by subst ex1; subst ex7; subst ex9; subst ey12; first | with_reducible rfl | (simp only [r_X7_tryIsland, a_h2_X7_tryIsland]; done) | rfl) (by subst ex1; subst ex7; subst ex9; subst ey12; first | with_reducible rfl | (simp only [r_X7_tryIsland, a_h2_X7_tryIsland]; done) | rfl) hP hD hS (Nat.le_of_ble_eq_true rfl) (Nat.le_of_ble_eq_true rfl) dX7_tryIsland_75
          refine lv_icmp_ne (tgt := 65) hx hb dX7_tryIsland_58 (by decide) (fun c11 => ?_) (fun c11 => ?_)
          · refine lv_iload hx hb dX7_tryIsland_65 (lv_at hl 5 rfl) ?_
            exact K67 _ _ _ _ (by subst ex1; subst ex7; subst ex9; first | with_reducible rfl | (simp only [if_neg c11]; done) | rfl) (hP.sub [0, 1, 2] rfl) (hD.sub [0, 1, 2] (by decide) rfl) hS (lv_sub hl [0, 1, 2, 3, 4, 5] rfl)
          · refine lv_iconst (v := (-1)) hx hb dX7_tryIsland_61 (by decide) ?_
            refine lv_goto (tgt := 67) hx hb dX7_tryIsland_62 (by decide) ?_
            exact K67 _ _ _ _ (by subst ex1; subst ex7; subst ex9; first | with_reducible rfl | (simp only [if_pos c11]; done) | rfl) (hP.sub [0, 1, 2] rfl) (hD.sub [0, 1, 2] (by decide) rfl) hS (lv_sub hl [0, 1, 2, 3, 4, 5] rfl)
        · have hnp : ¬ ¬ (itf (isG f p0 p1 p2) i) 20 = 1 := fun h => h (by subst ex1; subst ex7; exact c8)
          refine lv_aload_n hx hb dX7_tryIsland_40 rfl (lv_at hl 0 rfl) ?_
          refine call_v (wr := [(h2, .inl (cI, 165, .inl (a_h2_X7_putAside f as)))]) (k := 0) (n := 0) (run_V (As := []) (rest := []) ⟨hx, hb, hml, hown, hts⟩ (mK7 l D cI cJ cZ cO h0 h1 h2 h3 h4 h5 me tw (itf (isG f p0 p1 p2) i) (B + i) (ok_it hO i (by omega)) (by omega) H.size) (cwV 0 hts gX7_tryIsland_X7_tick rfl rfl rfl (by decide +kernel) ⟨Nat.le_of_ble_eq_true rfl, Nat.le_of_ble_eq_true rfl⟩) hK hN hP hD [1, 2] (by decide) rfl 7 0 rfl rfl rfl rfl rfl hl.1 (Nat.le_of_ble_eq_true rfl) dX7_tryIsland_41 ⟨Nat.le_of_ble_eq_true rfl, Nat.le_of_ble_eq_true rfl⟩) hP hD hS hA [1, 2] [0] rfl rfl (by decide) (by decide) (Nat.le_of_ble_eq_true rfl) (Nat.le_of_ble_eq_true rfl) (fun _ H locs hP hD hS => ?_)
          obtain ⟨x13, ex13⟩ : ∃ zz_, zz_ = (tickN (itf (isG f p0 p1 p2) i)) := ⟨_, rfl⟩
          have hP : va_P D vwCl [(h2, .inl (cI, 165, .inl (a_h2_X7_putAside f as))), (h0, .inr (7, [.ref h1, .long me, .ref h2, .ref h3, .ref h4, .ref h5, .int tw])), (h1, .inl (cI, 165, .inl x13))] H := by rw [ex13]; exact hP
          have hD : va_D A [(h2, .inl (cI, 165, .inl (a_h2_X7_putAside f as))), (h0, .inr (7, [.ref h1, .long me, .ref h2, .ref h3, .ref h4, .ref h5, .int tw])), (h1, .inl (cI, 165, .inl x13))] := by rw [ex13]; exact hD
          refine lv_iinc (v := (nI (i + 1))) (lv' := [(5, .int (nI (i + 1))), (0, .ref h0), (1, .int p0), (2, .int p1), (3, .int p2), (4, .int p3)]) hx hb dX7_tryIsland_44 hl (k := 5) rfl (nI_1 i) (by decide) rfl (fun ls hl => ?_)
          refine lv_goto (tgt := 22) hx hb dX7_tryIsland_47 (by decide) ?_
          have eW : ([(h2, .inl (cI, 165, .inl (a_h2_X7_putAside f as))), (h0, .inr (7, [.ref h1, .long me, .ref h2, .ref h3, .ref h4, .ref h5, .int tw])), (h1, .inl (cI, 165, .inl x13))] : va_W) = [(h2, .inl (cI, 165, .inl (a_h2_X7_putAside f as))), (h0, .inr (7, [.ref h1, .long me, .ref h2, .ref h3, .ref h4, .ref h5, .int tw])), (h1, .inl (cI, 165, .inl (itf (isG f p0 p1 p2) (i + 1))))] := (by subst ex7; subst ex13; rfl)
          have eL : ([(0, .ref h0), (1, .int p0), (2, .int p1), (3, .int p2), (4, .int p3), (5, .int (nI (i + 1)))] : List (Nat × Value)) = [(0, .ref h0), (1, .int p0), (2, .int p1), (3, .int p2), (4, .int p3), (5, .int (nI (i + 1)))] := (by subst ex7; subst ex13; rfl)
          exact ih (i + 1) H locs ls (by omega) (by omega) (st_next he hiN hnp) (P_eq eW (hP.sub (ws' := [(h2, .inl (cI, 165, .inl (a_h2_X7_putAside f as))), (h0, .inr (7, [.ref h1, .long me, .ref h2, .ref h3, .ref h4, .ref h5, .int tw])), (h1, .inl (cI, 165, .inl x13))]) [0, 1, 2] rfl)) (D_eq eW (hD.sub (ws' := [(h2, .inl (cI, 165, .inl (a_h2_X7_putAside f as))), (h0, .inr (7, [.ref h1, .long me, .ref h2, .ref h3, .ref h4, .ref h5, .int tw])), (h1, .inl (cI, 165, .inl x13))]) [0, 1, 2] (by decide) rfl)) hS (L_eq eL (lv_sub (l' := [(0, .ref h0), (1, .int p0), (2, .int p1), (3, .int p2), (4, .int p3), (5, .int (nI (i + 1)))]) hl [1, 2, 3, 4, 5, 0] rfl))
  have eW : ([(h2, .inl (cI, 165, .inl (a_h2_X7_putAside f as))), (h0, .inr (7, [.ref h1, .long me, .ref h2, .ref h3, .ref h4, .ref h5, .int tw])), (h1, .inl (cI, 165, .inl (upd x1 10 0)))] : va_W) = [(h2, .inl (cI, 165, .inl (a_h2_X7_putAside f as))), (h0, .inr (7, [.ref h1, .long me, .ref h2, .ref h3, .ref h4, .ref h5, .int tw])), (h1, .inl (cI, 165, .inl (itf (isG f p0 p1 p2) 0)))] := by subst ex1; rfl
  have eL : ([(0, .ref h0), (1, .int p0), (2, .int p1), (3, .int p2), (4, .int p3), (5, .int 0)] : List (Nat × Value)) = [(0, .ref h0), (1, .int p0), (2, .int p1), (3, .int p2), (4, .int p3), (5, .int (nI 0))] := by subst ex1; rfl
  exact L22 (nn + 1) 0 H locs ls (by omega) (by omega) rfl (P_eq eW (hP.sub (ws' := [(h2, .inl (cI, 165, .inl (a_h2_X7_putAside f as))), (h0, .inr (7, [.ref h1, .long me, .ref h2, .ref h3, .ref h4, .ref h5, .int tw])), (h1, .inl (cI, 165, .inl (upd x1 10 0)))]) [0, 1, 2] rfl)) (D_eq eW (hD.sub (ws' := [(h2, .inl (cI, 165, .inl (a_h2_X7_putAside f as))), (h0, .inr (7, [.ref h1, .long me, .ref h2, .ref h3, .ref h4, .ref h5, .int tw])), (h1, .inl (cI, 165, .inl (upd x1 10 0)))]) [0, 1, 2] (by decide) rfl)) hS (L_eq eL (lv_sub (l' := [(0, .ref h0), (1, .int p0), (2, .int p1), (3, .int p2), (4, .int p3), (5, .int 0)]) hl [1, 2, 3, 4, 5, 0] rfl))

def r_X7_islandTime (f : Nat → Int32) (p0 : Int32) (p1 : Int32) (p2 : Int32) (p3 : Int32) : Int32 := (if (r_X7_isIsland p0 p1 p2) = 0 then 0 else (if (r_X7_in p3 1 2000) = 0 then 0 else (if (f 20) = 1 then (r_X7_tryIsland f p0 p1 p2 p3.toNatClampNeg) else 0 : Int32) : Int32) : Int32)
def v_h0_thrown_X7_islandTime (f : Nat → Int32) (p0 : Int32) (p1 : Int32) (p2 : Int32) (p3 : Int32) : Int32 := (if (r_X7_isIsland p0 p1 p2) = 0 then 1 else (if (r_X7_in p3 1 2000) = 0 then 1 else (if (f 20) = 1 then 0 else 2 : Int32) : Int32) : Int32)
def a_h2_X7_islandTime (f : Nat → Int32) (as : Nat → Int32) (p0 : Int32) (p1 : Int32) (p2 : Int32) (p3 : Int32) : Nat → Int32 := (if (r_X7_isIsland p0 p1 p2) = 0 then as else (if (r_X7_in p3 1 2000) = 0 then as else (if (f 20) = 1 then (a_h2_X7_tryIsland f as) else as : Nat → Int32) : Nat → Int32) : Nat → Int32)
set_option maxHeartbeats 4000000 in
set_option maxRecDepth 100000 in
theorem mX7_islandTime (l : Launch) (D : va_G) (cI cJ cZ cO : ClassId) (h0 : Nat) (h1 : Nat) (h2 : Nat) (h3 : Nat) (h4 : Nat) (h5 : Nat) (me : Int64) (tw : Int32) (f : Nat → Int32) (as : Nat → Int32) (p0 : Int32) (p1 : Int32) (p2 : Int32) (p3 : Int32) (B : Nat) (hO : Ok f B) (hB : B + 2000 < 2147483647) : MI l yX7_islandTime wsX7_islandTime ({ frames := 5, cells := 0, slots := 0, locals := 110 } : Room) D (tysK cI cJ cZ cO) [.ref h0, .int p0, .int p1, .int p2, .int p3] [(h0, .inr (7, [.ref h1, .long me, .ref h2, .ref h3, .ref h4, .ref h5, .int tw])), (h1, .inl (cI, 165, .inl f)), (h2, .inl (cI, 165, .inl as))] (r_X7_islandTime f p0 p1 p2 p3) [(h0, .inr (7, [.ref h1, .long me, .ref h2, .ref h3, .ref h4, .ref h5, .int (v_h0_thrown_X7_islandTime f p0 p1 p2 p3)])), (h1, .inl (cI, 165, .inl f)), (h2, .inl (cI, 165, .inl (a_h2_X7_islandTime f as p0 p1 p2 p3)))] := by
  refine MI.of (cc := cX7_islandTime) (maxL := 5) (ret := .int) (by decide) rfl (Nat.le_of_ble_eq_true rfl) rfl ?_
  intro p e s m args below meth c A Q ls H locs B hS hP hD hl hret
  obtain ⟨hx, hb, hml, hown, hts, hK, hN, hA, hlocks⟩ := B
  have hi7 : ∀ w ∈ u_ws RX7 TX7 7, w ∈ wsX7_islandTime := by decide +kernel
  have hl : lv_has ls 5 [(0, .ref h0), (1, .int p0), (2, .int p1), (3, .int p2), (4, .int p3)] := hl
  refine lv_aload_n hx hb dX7_islandTime_0 rfl (lv_at hl 0 rfl) ?_
  refine lv_iload_n hx hb dX7_islandTime_1 rfl (lv_at hl 1 rfl) ?_
  refine lv_iload_n hx hb dX7_islandTime_2 rfl (lv_at hl 2 rfl) ?_
  refine lv_iload_n hx hb dX7_islandTime_3 rfl (lv_at hl 3 rfl) ?_
  refine call_i (wr := [(h0, .inr (7, [.ref h1, .long me, .ref h2, .ref h3, .ref h4, .ref h5, .int tw])), (h1, .inl (cI, 165, .inl f)), (h2, .inl (cI, 165, .inl as))]) (k := 0) (n := 0) (run_S (As := [.int p0, .int p1, .int p2]) (rest := [.ref h0]) ⟨hx, hb, hml, hown, hts⟩ (mX7_isIsland l D cI cJ cZ cO p0 p1 p2 H.size) (va_cwS 3 hts gX7_islandTime_X7_isIsland rfl rfl rfl (by decide +kernel) ⟨Nat.le_of_ble_eq_true rfl, Nat.le_of_ble_eq_true rfl⟩) hK hN hP hD [] (by decide) rfl rfl rfl hl.1 (Nat.le_of_ble_eq_true rfl) dX7_islandTime_4 ⟨Nat.le_of_ble_eq_true rfl, Nat.le_of_ble_eq_true rfl⟩) hP hD hS hA [] [0, 1, 2] rfl rfl (by decide) (by decide) (Nat.le_of_ble_eq_true rfl) (Nat.le_of_ble_eq_true rfl) (fun H locs hP hD hS => ?_)
  have hP : va_P D vwCl [(h0, .inr (7, [.ref h1, .long me, .ref h2, .ref h3, .ref h4, .ref h5, .int tw])), (h1, .inl (cI, 165, .inl f)), (h2, .inl (cI, 165, .inl as))] H := hP
  have hD : va_D A [(h0, .inr (7, [.ref h1, .long me, .ref h2, .ref h3, .ref h4, .ref h5, .int tw])), (h1, .inl (cI, 165, .inl f)), (h2, .inl (cI, 165, .inl as))] := hD
  refine lv_if_eq (tgt := 22) hx hb dX7_islandTime_7 (by decide) (fun c2 => ?_) (fun c2 => ?_)
  · refine lv_iconst (v := 1) hx hb dX7_islandTime_22 (by decide) ?_
    refine lv_goto (tgt := 42) hx hb dX7_islandTime_23 (by decide) ?_
    refine va_put (D := D) (ci := 7) (v := .int 1) (ty := .int) (C := RX7) (T := TX7) (N := 7) hx hb hts hi7 tyX7 tyX7_ok nmX7 hown hK hP hD hS 0 rfl rfl 6 (by decide) (hts (.fieldLink RX7 30 "GridInverterModel" "thrown" "I") (by decide +kernel)) (fun _ h9 => h9) rfl (by decide +kernel) rfl rfl (Nat.le_of_ble_eq_true rfl) dX7_islandTime_42 (fun H locs hP hD hS => ?_)
    have hP : va_P D vwCl [(h0, .inr (7, [.ref h1, .long me, .ref h2, .ref h3, .ref h4, .ref h5, .int 1])), (h1, .inl (cI, 165, .inl f)), (h2, .inl (cI, 165, .inl as))] H := hP
    have hD : va_D A [(h0, .inr (7, [.ref h1, .long me, .ref h2, .ref h3, .ref h4, .ref h5, .int 1])), (h1, .inl (cI, 165, .inl f)), (h2, .inl (cI, 165, .inl as))] := hD
    refine lv_aload_n hx hb dX7_islandTime_45 rfl (lv_at hl 0 rfl) ?_
    refine va_get (D := D) (ci := 7) (v := .int 1) (C := RX7) (T := TX7) (N := 7) hx hb hts hi7 hown hK hP 0 rfl rfl 6 (by decide) (hts (.fieldLink RX7 30 "GridInverterModel" "thrown" "I") (by decide +kernel)) (fun _ h9 => h9) rfl dX7_islandTime_46 ?_
    refine lv_if_eq (tgt := 56) hx hb dX7_islandTime_49 (by decide) (fun h => absurd h (by decide)) (fun _ => ?_)
    refine lv_iconst (v := 0) hx hb dX7_islandTime_52 (by decide) ?_
    refine lv_goto (tgt := 65) hx hb dX7_islandTime_53 (by decide) ?_
    exact hret _ _ _ _ _ _ _ _ (by first | with_reducible rfl | (simp only [r_X7_islandTime, v_h0_thrown_X7_islandTime, a_h2_X7_islandTime, if_pos c2]; done) | rfl) (by first | with_reducible rfl | (simp only [r_X7_islandTime, v_h0_thrown_X7_islandTime, a_h2_X7_islandTime, if_pos c2]; done) | rfl) hP hD hS (Nat.le_of_ble_eq_true rfl) (Nat.le_of_ble_eq_true rfl) dX7_islandTime_65
  · refine lv_iload hx hb dX7_islandTime_10 (lv_at hl 4 rfl) ?_
    refine lv_iconst (v := 1) hx hb dX7_islandTime_12 (by decide) ?_
    refine lv_sipush (v := 2000) hx hb dX7_islandTime_13 (by decide) ?_
    refine call_i (wr := [(h0, .inr (7, [.ref h1, .long me, .ref h2, .ref h3, .ref h4, .ref h5, .int tw])), (h1, .inl (cI, 165, .inl f)), (h2, .inl (cI, 165, .inl as))]) (k := 0) (n := 0) (run_S (As := [.int p3, .int 1, .int 2000]) (rest := [.ref h0]) ⟨hx, hb, hml, hown, hts⟩ (mX7_in l D cI cJ cZ cO p3 1 2000 H.size) (va_cwS 3 hts gX7_islandTime_X7_in rfl rfl rfl (by decide +kernel) ⟨Nat.le_of_ble_eq_true rfl, Nat.le_of_ble_eq_true rfl⟩) hK hN hP hD [] (by decide) rfl rfl rfl hl.1 (Nat.le_of_ble_eq_true rfl) dX7_islandTime_16 ⟨Nat.le_of_ble_eq_true rfl, Nat.le_of_ble_eq_true rfl⟩) hP hD hS hA [] [0, 1, 2] rfl rfl (by decide) (by decide) (Nat.le_of_ble_eq_true rfl) (Nat.le_of_ble_eq_true rfl) (fun H locs hP hD hS => ?_)
    have hP : va_P D vwCl [(h0, .inr (7, [.ref h1, .long me, .ref h2, .ref h3, .ref h4, .ref h5, .int tw])), (h1, .inl (cI, 165, .inl f)), (h2, .inl (cI, 165, .inl as))] H := hP
    have hD : va_D A [(h0, .inr (7, [.ref h1, .long me, .ref h2, .ref h3, .ref h4, .ref h5, .int tw])), (h1, .inl (cI, 165, .inl f)), (h2, .inl (cI, 165, .inl as))] := hD
    refine lv_if_ne (tgt := 26) hx hb dX7_islandTime_19 (by decide) (fun c4 => ?_) (fun c4 => ?_)
    · refine lv_aload_n hx hb dX7_islandTime_26 rfl (lv_at hl 0 rfl) ?_
      refine va_get (D := D) (ci := 7) (v := .ref h1) (C := RX7) (T := TX7) (N := 7) hx hb hts hi7 hown hK hP 0 rfl rfl 0 (by decide) (hts (.fieldLink RX7 7 "GridInverterModel" "at" "[I") (by decide +kernel)) (fun _ h9 => h9) rfl dX7_islandTime_27 ?_
      refine lv_bipush (v := 20) hx hb dX7_islandTime_30 (by decide) ?_
      refine r_ald hx hb hK hP 1 0 rfl rfl 20 rfl (Nat.le_of_ble_eq_true rfl) (Nat.le_of_ble_eq_true rfl) (v := (f 20)) rfl dX7_islandTime_32 ?_
      refine lv_iconst (v := 1) hx hb dX7_islandTime_33 (by decide) ?_
      refine lv_icmp_eq (tgt := 41) hx hb dX7_islandTime_34 (by decide) (fun c6 => ?_) (fun c6 => ?_)
      · refine lv_iconst (v := 0) hx hb dX7_islandTime_41 (by decide) ?_
        refine va_put (D := D) (ci := 7) (v := .int 0) (ty := .int) (C := RX7) (T := TX7) (N := 7) hx hb hts hi7 tyX7 tyX7_ok nmX7 hown hK hP hD hS 0 rfl rfl 6 (by decide) (hts (.fieldLink RX7 30 "GridInverterModel" "thrown" "I") (by decide +kernel)) (fun _ h9 => h9) rfl (by decide +kernel) rfl rfl (Nat.le_of_ble_eq_true rfl) dX7_islandTime_42 (fun H locs hP hD hS => ?_)
        have hP : va_P D vwCl [(h0, .inr (7, [.ref h1, .long me, .ref h2, .ref h3, .ref h4, .ref h5, .int 0])), (h1, .inl (cI, 165, .inl f)), (h2, .inl (cI, 165, .inl as))] H := hP
        have hD : va_D A [(h0, .inr (7, [.ref h1, .long me, .ref h2, .ref h3, .ref h4, .ref h5, .int 0])), (h1, .inl (cI, 165, .inl f)), (h2, .inl (cI, 165, .inl as))] := hD
        refine lv_aload_n hx hb dX7_islandTime_45 rfl (lv_at hl 0 rfl) ?_
        refine va_get (D := D) (ci := 7) (v := .int 0) (C := RX7) (T := TX7) (N := 7) hx hb hts hi7 hown hK hP 0 rfl rfl 6 (by decide) (hts (.fieldLink RX7 30 "GridInverterModel" "thrown" "I") (by decide +kernel)) (fun _ h9 => h9) rfl dX7_islandTime_46 ?_
        refine lv_if_eq (tgt := 56) hx hb dX7_islandTime_49 (by decide) (fun _ => ?_) (fun h => absurd (by decide) h)
        refine lv_aload_n hx hb dX7_islandTime_56 rfl (lv_at hl 0 rfl) ?_
        refine lv_iload_n hx hb dX7_islandTime_57 rfl (lv_at hl 1 rfl) ?_
        refine lv_iload_n hx hb dX7_islandTime_58 rfl (lv_at hl 2 rfl) ?_
        refine lv_iload_n hx hb dX7_islandTime_59 rfl (lv_at hl 3 rfl) ?_
        refine lv_iload hx hb dX7_islandTime_60 (lv_at hl 4 rfl) ?_
        refine call_i (wr := []) (k := 0) (n := 0) (run_V (As := [.int p0, .int p1, .int p2, .int p3]) (rest := []) ⟨hx, hb, hml, hown, hts⟩ (mX7_tryIsland l D cI cJ cZ cO h0 h1 h2 h3 h4 h5 me 0 f as p0 p1 p2 p3 B p3.toNatClampNeg (ok_isG hO (isl_13 c2)) hB (in_n (lo := 1) (hi := 2000) (by decide) (by decide) c4).1 (in_n (lo := 1) (hi := 2000) (by decide) (by decide) c4).2.2 H.size) (cwV 4 hts gX7_islandTime_X7_tryIsland rfl rfl rfl (by decide +kernel) ⟨Nat.le_of_ble_eq_true rfl, Nat.le_of_ble_eq_true rfl⟩) hK hN hP hD [0, 1, 2] (by decide) rfl 7 0 rfl rfl rfl rfl rfl hl.1 (Nat.le_of_ble_eq_true rfl) dX7_islandTime_62 ⟨Nat.le_of_ble_eq_true rfl, Nat.le_of_ble_eq_true rfl⟩) hP hD hS hA [0, 1, 2] [] rfl rfl (by decide) (by decide) (Nat.le_of_ble_eq_true rfl) (Nat.le_of_ble_eq_true rfl) (fun H locs hP hD hS => ?_)
        have hP : va_P D vwCl [(h0, .inr (7, [.ref h1, .long me, .ref h2, .ref h3, .ref h4, .ref h5, .int 0])), (h1, .inl (cI, 165, .inl f)), (h2, .inl (cI, 165, .inl (a_h2_X7_tryIsland f as)))] H := hP
        have hD : va_D A [(h0, .inr (7, [.ref h1, .long me, .ref h2, .ref h3, .ref h4, .ref h5, .int 0])), (h1, .inl (cI, 165, .inl f)), (h2, .inl (cI, 165, .inl (a_h2_X7_tryIsland f as)))] := hD
        refine lv_topi (fun x7 ex7 => ?_)
        exact hret _ _ _ _ _ _ _ _ (by subst ex7; first | with_reducible rfl | (simp only [r_X7_islandTime, v_h0_thrown_X7_islandTime, a_h2_X7_islandTime, if_neg c2, if_neg c4, if_pos c6]; done) | rfl) (by subst ex7; first | with_reducible rfl | (simp only [r_X7_islandTime, v_h0_thrown_X7_islandTime, a_h2_X7_islandTime, if_neg c2, if_neg c4, if_pos c6]; done) | rfl) hP hD hS (Nat.le_of_ble_eq_true rfl) (Nat.le_of_ble_eq_true rfl) dX7_islandTime_65
      · refine lv_iconst (v := 2) hx hb dX7_islandTime_37 (by decide) ?_
        refine lv_goto (tgt := 42) hx hb dX7_islandTime_38 (by decide) ?_
        refine va_put (D := D) (ci := 7) (v := .int 2) (ty := .int) (C := RX7) (T := TX7) (N := 7) hx hb hts hi7 tyX7 tyX7_ok nmX7 hown hK hP hD hS 0 rfl rfl 6 (by decide) (hts (.fieldLink RX7 30 "GridInverterModel" "thrown" "I") (by decide +kernel)) (fun _ h9 => h9) rfl (by decide +kernel) rfl rfl (Nat.le_of_ble_eq_true rfl) dX7_islandTime_42 (fun H locs hP hD hS => ?_)
        have hP : va_P D vwCl [(h0, .inr (7, [.ref h1, .long me, .ref h2, .ref h3, .ref h4, .ref h5, .int 2])), (h1, .inl (cI, 165, .inl f)), (h2, .inl (cI, 165, .inl as))] H := hP
        have hD : va_D A [(h0, .inr (7, [.ref h1, .long me, .ref h2, .ref h3, .ref h4, .ref h5, .int 2])), (h1, .inl (cI, 165, .inl f)), (h2, .inl (cI, 165, .inl as))] := hD
        refine lv_aload_n hx hb dX7_islandTime_45 rfl (lv_at hl 0 rfl) ?_
        refine va_get (D := D) (ci := 7) (v := .int 2) (C := RX7) (T := TX7) (N := 7) hx hb hts hi7 hown hK hP 0 rfl rfl 6 (by decide) (hts (.fieldLink RX7 30 "GridInverterModel" "thrown" "I") (by decide +kernel)) (fun _ h9 => h9) rfl dX7_islandTime_46 ?_
        refine lv_if_eq (tgt := 56) hx hb dX7_islandTime_49 (by decide) (fun h => absurd h (by decide)) (fun _ => ?_)
        refine lv_iconst (v := 0) hx hb dX7_islandTime_52 (by decide) ?_
        refine lv_goto (tgt := 65) hx hb dX7_islandTime_53 (by decide) ?_
        exact hret _ _ _ _ _ _ _ _ (by first | with_reducible rfl | (simp only [r_X7_islandTime, v_h0_thrown_X7_islandTime, a_h2_X7_islandTime, if_neg c2, if_neg c4, if_neg c6]; done) | rfl) (by first | with_reducible rfl | (simp only [r_X7_islandTime, v_h0_thrown_X7_islandTime, a_h2_X7_islandTime, if_neg c2, if_neg c4, if_neg c6]; done) | rfl) hP hD hS (Nat.le_of_ble_eq_true rfl) (Nat.le_of_ble_eq_true rfl) dX7_islandTime_65
    · refine lv_iconst (v := 1) hx hb dX7_islandTime_22 (by decide) ?_
      refine lv_goto (tgt := 42) hx hb dX7_islandTime_23 (by decide) ?_
      refine va_put (D := D) (ci := 7) (v := .int 1) (ty := .int) (C := RX7) (T := TX7) (N := 7) hx hb hts hi7 tyX7 tyX7_ok nmX7 hown hK hP hD hS 0 rfl rfl 6 (by decide) (hts (.fieldLink RX7 30 "GridInverterModel" "thrown" "I") (by decide +kernel)) (fun _ h9 => h9) rfl (by decide +kernel) rfl rfl (Nat.le_of_ble_eq_true rfl) dX7_islandTime_42 (fun H locs hP hD hS => ?_)
      have hP : va_P D vwCl [(h0, .inr (7, [.ref h1, .long me, .ref h2, .ref h3, .ref h4, .ref h5, .int 1])), (h1, .inl (cI, 165, .inl f)), (h2, .inl (cI, 165, .inl as))] H := hP
      have hD : va_D A [(h0, .inr (7, [.ref h1, .long me, .ref h2, .ref h3, .ref h4, .ref h5, .int 1])), (h1, .inl (cI, 165, .inl f)), (h2, .inl (cI, 165, .inl as))] := hD
      refine lv_aload_n hx hb dX7_islandTime_45 rfl (lv_at hl 0 rfl) ?_
      refine va_get (D := D) (ci := 7) (v := .int 1) (C := RX7) (T := TX7) (N := 7) hx hb hts hi7 hown hK hP 0 rfl rfl 6 (by decide) (hts (.fieldLink RX7 30 "GridInverterModel" "thrown" "I") (by decide +kernel)) (fun _ h9 => h9) rfl dX7_islandTime_46 ?_
      refine lv_if_eq (tgt := 56) hx hb dX7_islandTime_49 (by decide) (fun h => absurd h (by decide)) (fun _ => ?_)
      refine lv_iconst (v := 0) hx hb dX7_islandTime_52 (by decide) ?_
      refine lv_goto (tgt := 65) hx hb dX7_islandTime_53 (by decide) ?_
      exact hret _ _ _ _ _ _ _ _ (by first | with_reducible rfl | (simp only [r_X7_islandTime, v_h0_thrown_X7_islandTime, a_h2_X7_islandTime, if_neg c2, if_pos c4]; done) | rfl) (by first | with_reducible rfl | (simp only [r_X7_islandTime, v_h0_thrown_X7_islandTime, a_h2_X7_islandTime, if_neg c2, if_pos c4]; done) | rfl) hP hD hS (Nat.le_of_ble_eq_true rfl) (Nat.le_of_ble_eq_true rfl) dX7_islandTime_65

def r_X7_undetected (f : Nat → Int32) (p0 : Int32) (p1 : Int32) (p2 : Int32) (p3 : Int32) : Int32 := (if (r_X7_in p0 1 5000) = 0 then 0 else (if (r_X7_in p1 1 500) = 0 then 0 else (if (r_X7_in p2 1 10) = 0 then 0 else (if (r_X7_in p3 1 500) = 0 then 0 else (if 5000 < (p0 + ((p2 - 1) * p1)) then 0 else (if (f 20) = 1 then (unN f p0 p1 p3.toNatClampNeg p2.toNatClampNeg) else 0 : Int32) : Int32) : Int32) : Int32) : Int32) : Int32)
def v_h0_thrown_X7_undetected (f : Nat → Int32) (p0 : Int32) (p1 : Int32) (p2 : Int32) (p3 : Int32) : Int32 := (if (r_X7_in p0 1 5000) = 0 then 1 else (if (r_X7_in p1 1 500) = 0 then 1 else (if (r_X7_in p2 1 10) = 0 then 1 else (if (r_X7_in p3 1 500) = 0 then 1 else (if 5000 < (p0 + ((p2 - 1) * p1)) then 1 else (if (f 20) = 1 then 0 else 2 : Int32) : Int32) : Int32) : Int32) : Int32) : Int32)
def a_h2_X7_undetected (f : Nat → Int32) (as : Nat → Int32) (p0 : Int32) (p1 : Int32) (p2 : Int32) (p3 : Int32) : Nat → Int32 := (if (r_X7_in p0 1 5000) = 0 then as else (if (r_X7_in p1 1 500) = 0 then as else (if (r_X7_in p2 1 10) = 0 then as else (if (r_X7_in p3 1 500) = 0 then as else (if 5000 < (p0 + ((p2 - 1) * p1)) then as else (if (f 20) = 1 then (asN f as p2.toNatClampNeg) else as : Nat → Int32) : Nat → Int32) : Nat → Int32) : Nat → Int32) : Nat → Int32) : Nat → Int32)
set_option maxHeartbeats 4000000 in
set_option maxRecDepth 100000 in
theorem mX7_undetected (l : Launch) (D : va_G) (cI cJ cZ cO : ClassId) (h0 : Nat) (h1 : Nat) (h2 : Nat) (h3 : Nat) (h4 : Nat) (h5 : Nat) (me : Int64) (tw : Int32) (f : Nat → Int32) (as : Nat → Int32) (p0 : Int32) (p1 : Int32) (p2 : Int32) (p3 : Int32) (B : Nat) (hO : Ok f B) (hB : B + 2000 < 2147483647) : MI l yX7_undetected wsX7_undetected ({ frames := 5, cells := 0, slots := 0, locals := 110 } : Room) D (tysK cI cJ cZ cO) [.ref h0, .int p0, .int p1, .int p2, .int p3] [(h0, .inr (7, [.ref h1, .long me, .ref h2, .ref h3, .ref h4, .ref h5, .int tw])), (h1, .inl (cI, 165, .inl f)), (h2, .inl (cI, 165, .inl as))] (r_X7_undetected f p0 p1 p2 p3) [(h0, .inr (7, [.ref h1, .long me, .ref h2, .ref h3, .ref h4, .ref h5, .int (v_h0_thrown_X7_undetected f p0 p1 p2 p3)])), (h1, .inl (cI, 165, .inl f)), (h2, .inl (cI, 165, .inl (a_h2_X7_undetected f as p0 p1 p2 p3)))] := by
  refine MI.of (cc := cX7_undetected) (maxL := 8) (ret := .int) (by decide) rfl (Nat.le_of_ble_eq_true rfl) rfl ?_
  intro p e s m args below meth c A Q ls H locs B hS hP hD hl hret
  obtain ⟨hx, hb, hml, hown, hts, hK, hN, hA, hlocks⟩ := B
  have hi7 : ∀ w ∈ u_ws RX7 TX7 7, w ∈ wsX7_undetected := by decide +kernel
  have hl : lv_has ls 8 [(0, .ref h0), (1, .int p0), (2, .int p1), (3, .int p2), (4, .int p3)] := hl
  refine lv_iload_n hx hb dX7_undetected_0 rfl (lv_at hl 1 rfl) ?_
  refine lv_iconst (v := 1) hx hb dX7_undetected_1 (by decide) ?_
  refine lv_sipush (v := 5000) hx hb dX7_undetected_2 (by decide) ?_
  refine call_i (wr := [(h0, .inr (7, [.ref h1, .long me, .ref h2, .ref h3, .ref h4, .ref h5, .int tw])), (h1, .inl (cI, 165, .inl f)), (h2, .inl (cI, 165, .inl as))]) (k := 0) (n := 0) (run_S (As := [.int p0, .int 1, .int 5000]) (rest := []) ⟨hx, hb, hml, hown, hts⟩ (mX7_in l D cI cJ cZ cO p0 1 5000 H.size) (va_cwS 3 hts gX7_undetected_X7_in rfl rfl rfl (by decide +kernel) ⟨Nat.le_of_ble_eq_true rfl, Nat.le_of_ble_eq_true rfl⟩) hK hN hP hD [] (by decide) rfl rfl rfl hl.1 (Nat.le_of_ble_eq_true rfl) dX7_undetected_5 ⟨Nat.le_of_ble_eq_true rfl, Nat.le_of_ble_eq_true rfl⟩) hP hD hS hA [] [0, 1, 2] rfl rfl (by decide) (by decide) (Nat.le_of_ble_eq_true rfl) (Nat.le_of_ble_eq_true rfl) (fun H locs hP hD hS => ?_)
  have hP : va_P D vwCl [(h0, .inr (7, [.ref h1, .long me, .ref h2, .ref h3, .ref h4, .ref h5, .int tw])), (h1, .inl (cI, 165, .inl f)), (h2, .inl (cI, 165, .inl as))] H := hP
  have hD : va_D A [(h0, .inr (7, [.ref h1, .long me, .ref h2, .ref h3, .ref h4, .ref h5, .int tw])), (h1, .inl (cI, 165, .inl f)), (h2, .inl (cI, 165, .inl as))] := hD
  refine lv_if_eq (tgt := 61) hx hb dX7_undetected_8 (by decide) (fun c2 => ?_) (fun c2 => ?_)
  · refine lv_iconst (v := 0) hx hb dX7_undetected_61 (by decide) ?_
    refine lv_istore (lv' := [(5, .int 0), (0, .ref h0), (1, .int p0), (2, .int p1), (3, .int p2), (4, .int p3)]) hx hb dX7_undetected_62 hl (by decide) rfl (fun ls hl => ?_)
    refine lv_aload_n hx hb dX7_undetected_64 rfl (lv_at hl 1 rfl) ?_
    refine lv_iload hx hb dX7_undetected_65 (lv_at hl 0 rfl) ?_
    refine lv_if_ne (tgt := 74) hx hb dX7_undetected_67 (by decide) (fun h => absurd rfl h) (fun _ => ?_)
    refine lv_iconst (v := 1) hx hb dX7_undetected_70 (by decide) ?_
    refine lv_goto (tgt := 90) hx hb dX7_undetected_71 (by decide) ?_
    refine va_put (D := D) (ci := 7) (v := .int 1) (ty := .int) (C := RX7) (T := TX7) (N := 7) hx hb hts hi7 tyX7 tyX7_ok nmX7 hown hK hP hD hS 0 rfl rfl 6 (by decide) (hts (.fieldLink RX7 30 "GridInverterModel" "thrown" "I") (by decide +kernel)) (fun _ h9 => h9) rfl (by decide +kernel) rfl rfl (Nat.le_of_ble_eq_true rfl) dX7_undetected_90 (fun H locs hP hD hS => ?_)
    have hP : va_P D vwCl [(h0, .inr (7, [.ref h1, .long me, .ref h2, .ref h3, .ref h4, .ref h5, .int 1])), (h1, .inl (cI, 165, .inl f)), (h2, .inl (cI, 165, .inl as))] H := hP
    have hD : va_D A [(h0, .inr (7, [.ref h1, .long me, .ref h2, .ref h3, .ref h4, .ref h5, .int 1])), (h1, .inl (cI, 165, .inl f)), (h2, .inl (cI, 165, .inl as))] := hD
    refine lv_iconst (v := 0) hx hb dX7_undetected_93 (by decide) ?_
    refine lv_istore (lv' := [(6, .int 0), (5, .int 0), (0, .ref h0), (1, .int p0), (2, .int p1), (3, .int p2), (4, .int p3)]) hx hb dX7_undetected_94 hl (by decide) rfl (fun ls hl => ?_)
    refine lv_iconst (v := 0) hx hb dX7_undetected_96 (by decide) ?_
    refine lv_istore (lv' := [(7, .int 0), (6, .int 0), (5, .int 0), (0, .ref h0), (1, .int p0), (2, .int p1), (3, .int p2), (4, .int p3)]) hx hb dX7_undetected_97 hl (by decide) rfl (fun ls hl => ?_)
    refine lv_iload hx hb dX7_undetected_99 (lv_at hl 0 rfl) ?_
    refine lv_iload_n hx hb dX7_undetected_101 rfl (lv_at hl 6 rfl) ?_
    have K158 : ∀ (H : Heap) (locs : List Loc) (ls : Array Slot), va_P D vwCl [(h0, .inr (7, [.ref h1, .long me, .ref h2, .ref h3, .ref h4, .ref h5, .int 1])), (h1, .inl (cI, 165, .inl f)), (h2, .inl (cI, 165, .inl as))] H → va_D A [(h0, .inr (7, [.ref h1, .long me, .ref h2, .ref h3, .ref h4, .ref h5, .int 1])), (h1, .inl (cI, 165, .inl f)), (h2, .inl (cI, 165, .inl as))] → va_S A s.heap H locs → lv_has ls 8 [(0, .ref h0), (1, .int p0), (2, .int p1), (3, .int p2), (4, .int p3), (5, .int 0), (6, .int 0), (7, .int 0)] → W p l e ({ frames := 5, cells := 0, slots := 0, locals := 110 } : Room) s m args below meth c H locs 0 0 Q (F0 m 158 ls []) := by
      intro  H locs ls  hP hD hS hl
      refine lv_iload hx hb dX7_undetected_158 (lv_at hl 6 rfl) ?_
      exact hret _ _ _ _ _ _ _ _ (by first | with_reducible rfl | (simp only [r_X7_undetected, v_h0_thrown_X7_undetected, a_h2_X7_undetected, if_pos c2]; done) | rfl) (by first | with_reducible rfl | (simp only [r_X7_undetected, v_h0_thrown_X7_undetected, a_h2_X7_undetected, if_pos c2]; done) | rfl) hP hD hS (Nat.le_of_ble_eq_true rfl) (Nat.le_of_ble_eq_true rfl) dX7_undetected_160
    refine lv_icmp_ge (tgt := 158) hx hb dX7_undetected_102 (by decide) (fun c4 => ?_) (fun c4 => ?_)
    · exact K158  _ _ _  (hP.sub [0, 1, 2] rfl) (hD.sub [0, 1, 2] (by decide) rfl) hS (lv_sub hl [3, 4, 5, 6, 7, 2, 1, 0] rfl)
    · refine lv_aload_n hx hb dX7_undetected_105 rfl (lv_at hl 3 rfl) ?_
      refine va_get (D := D) (ci := 7) (v := .int 1) (C := RX7) (T := TX7) (N := 7) hx hb hts hi7 hown hK hP 0 rfl rfl 6 (by decide) (hts (.fieldLink RX7 30 "GridInverterModel" "thrown" "I") (by decide +kernel)) (fun _ h9 => h9) rfl dX7_undetected_106 ?_
      refine lv_if_ne (tgt := 158) hx hb dX7_undetected_109 (by decide) (fun _ => ?_) (fun h => absurd h (by decide))
      exact K158  _ _ _  (hP.sub [0, 1, 2] rfl) (hD.sub [0, 1, 2] (by decide) rfl) hS (lv_sub hl [3, 4, 5, 6, 7, 2, 1, 0] rfl)
  · refine lv_iload_n hx hb dX7_undetected_11 rfl (lv_at hl 2 rfl) ?_
    refine lv_iconst (v := 1) hx hb dX7_undetected_12 (by decide) ?_
    refine lv_sipush (v := 500) hx hb dX7_undetected_13 (by decide) ?_
    refine call_i (wr := [(h0, .inr (7, [.ref h1, .long me, .ref h2, .ref h3, .ref h4, .ref h5, .int tw])), (h1, .inl (cI, 165, .inl f)), (h2, .inl (cI, 165, .inl as))]) (k := 0) (n := 0) (run_S (As := [.int p1, .int 1, .int 500]) (rest := []) ⟨hx, hb, hml, hown, hts⟩ (mX7_in l D cI cJ cZ cO p1 1 500 H.size) (va_cwS 3 hts gX7_undetected_X7_in rfl rfl rfl (by decide +kernel) ⟨Nat.le_of_ble_eq_true rfl, Nat.le_of_ble_eq_true rfl⟩) hK hN hP hD [] (by decide) rfl rfl rfl hl.1 (Nat.le_of_ble_eq_true rfl) dX7_undetected_16 ⟨Nat.le_of_ble_eq_true rfl, Nat.le_of_ble_eq_true rfl⟩) hP hD hS hA [] [0, 1, 2] rfl rfl (by decide) (by decide) (Nat.le_of_ble_eq_true rfl) (Nat.le_of_ble_eq_true rfl) (fun H locs hP hD hS => ?_)
    have hP : va_P D vwCl [(h0, .inr (7, [.ref h1, .long me, .ref h2, .ref h3, .ref h4, .ref h5, .int tw])), (h1, .inl (cI, 165, .inl f)), (h2, .inl (cI, 165, .inl as))] H := hP
    have hD : va_D A [(h0, .inr (7, [.ref h1, .long me, .ref h2, .ref h3, .ref h4, .ref h5, .int tw])), (h1, .inl (cI, 165, .inl f)), (h2, .inl (cI, 165, .inl as))] := hD
    refine lv_if_eq (tgt := 61) hx hb dX7_undetected_19 (by decide) (fun c6 => ?_) (fun c6 => ?_)
    · refine lv_iconst (v := 0) hx hb dX7_undetected_61 (by decide) ?_
      refine lv_istore (lv' := [(5, .int 0), (0, .ref h0), (1, .int p0), (2, .int p1), (3, .int p2), (4, .int p3)]) hx hb dX7_undetected_62 hl (by decide) rfl (fun ls hl => ?_)
      refine lv_aload_n hx hb dX7_undetected_64 rfl (lv_at hl 1 rfl) ?_
      refine lv_iload hx hb dX7_undetected_65 (lv_at hl 0 rfl) ?_
      refine lv_if_ne (tgt := 74) hx hb dX7_undetected_67 (by decide) (fun h => absurd rfl h) (fun _ => ?_)
      refine lv_iconst (v := 1) hx hb dX7_undetected_70 (by decide) ?_
      refine lv_goto (tgt := 90) hx hb dX7_undetected_71 (by decide) ?_
      refine va_put (D := D) (ci := 7) (v := .int 1) (ty := .int) (C := RX7) (T := TX7) (N := 7) hx hb hts hi7 tyX7 tyX7_ok nmX7 hown hK hP hD hS 0 rfl rfl 6 (by decide) (hts (.fieldLink RX7 30 "GridInverterModel" "thrown" "I") (by decide +kernel)) (fun _ h9 => h9) rfl (by decide +kernel) rfl rfl (Nat.le_of_ble_eq_true rfl) dX7_undetected_90 (fun H locs hP hD hS => ?_)
      have hP : va_P D vwCl [(h0, .inr (7, [.ref h1, .long me, .ref h2, .ref h3, .ref h4, .ref h5, .int 1])), (h1, .inl (cI, 165, .inl f)), (h2, .inl (cI, 165, .inl as))] H := hP
      have hD : va_D A [(h0, .inr (7, [.ref h1, .long me, .ref h2, .ref h3, .ref h4, .ref h5, .int 1])), (h1, .inl (cI, 165, .inl f)), (h2, .inl (cI, 165, .inl as))] := hD
      refine lv_iconst (v := 0) hx hb dX7_undetected_93 (by decide) ?_
      refine lv_istore (lv' := [(6, .int 0), (5, .int 0), (0, .ref h0), (1, .int p0), (2, .int p1), (3, .int p2), (4, .int p3)]) hx hb dX7_undetected_94 hl (by decide) rfl (fun ls hl => ?_)
      refine lv_iconst (v := 0) hx hb dX7_undetected_96 (by decide) ?_
      refine lv_istore (lv' := [(7, .int 0), (6, .int 0), (5, .int 0), (0, .ref h0), (1, .int p0), (2, .int p1), (3, .int p2), (4, .int p3)]) hx hb dX7_undetected_97 hl (by decide) rfl (fun ls hl => ?_)
      refine lv_iload hx hb dX7_undetected_99 (lv_at hl 0 rfl) ?_
      refine lv_iload_n hx hb dX7_undetected_101 rfl (lv_at hl 6 rfl) ?_
      have K158 : ∀ (H : Heap) (locs : List Loc) (ls : Array Slot), va_P D vwCl [(h0, .inr (7, [.ref h1, .long me, .ref h2, .ref h3, .ref h4, .ref h5, .int 1])), (h1, .inl (cI, 165, .inl f)), (h2, .inl (cI, 165, .inl as))] H → va_D A [(h0, .inr (7, [.ref h1, .long me, .ref h2, .ref h3, .ref h4, .ref h5, .int 1])), (h1, .inl (cI, 165, .inl f)), (h2, .inl (cI, 165, .inl as))] → va_S A s.heap H locs → lv_has ls 8 [(0, .ref h0), (1, .int p0), (2, .int p1), (3, .int p2), (4, .int p3), (5, .int 0), (6, .int 0), (7, .int 0)] → W p l e ({ frames := 5, cells := 0, slots := 0, locals := 110 } : Room) s m args below meth c H locs 0 0 Q (F0 m 158 ls []) := by
        intro  H locs ls  hP hD hS hl
        refine lv_iload hx hb dX7_undetected_158 (lv_at hl 6 rfl) ?_
        exact hret _ _ _ _ _ _ _ _ (by first | with_reducible rfl | (simp only [r_X7_undetected, v_h0_thrown_X7_undetected, a_h2_X7_undetected, if_neg c2, if_pos c6]; done) | rfl) (by first | with_reducible rfl | (simp only [r_X7_undetected, v_h0_thrown_X7_undetected, a_h2_X7_undetected, if_neg c2, if_pos c6]; done) | rfl) hP hD hS (Nat.le_of_ble_eq_true rfl) (Nat.le_of_ble_eq_true rfl) dX7_undetected_160
      refine lv_icmp_ge (tgt := 158) hx hb dX7_undetected_102 (by decide) (fun c8 => ?_) (fun c8 => ?_)
      · exact K158  _ _ _  (hP.sub [0, 1, 2] rfl) (hD.sub [0, 1, 2] (by decide) rfl) hS (lv_sub hl [3, 4, 5, 6, 7, 2, 1, 0] rfl)
      · refine lv_aload_n hx hb dX7_undetected_105 rfl (lv_at hl 3 rfl) ?_
        refine va_get (D := D) (ci := 7) (v := .int 1) (C := RX7) (T := TX7) (N := 7) hx hb hts hi7 hown hK hP 0 rfl rfl 6 (by decide) (hts (.fieldLink RX7 30 "GridInverterModel" "thrown" "I") (by decide +kernel)) (fun _ h9 => h9) rfl dX7_undetected_106 ?_
        refine lv_if_ne (tgt := 158) hx hb dX7_undetected_109 (by decide) (fun _ => ?_) (fun h => absurd h (by decide))
        exact K158  _ _ _  (hP.sub [0, 1, 2] rfl) (hD.sub [0, 1, 2] (by decide) rfl) hS (lv_sub hl [3, 4, 5, 6, 7, 2, 1, 0] rfl)
    · refine lv_iload_n hx hb dX7_undetected_22 rfl (lv_at hl 3 rfl) ?_
      refine lv_iconst (v := 1) hx hb dX7_undetected_23 (by decide) ?_
      refine lv_bipush (v := 10) hx hb dX7_undetected_24 (by decide) ?_
      refine call_i (wr := [(h0, .inr (7, [.ref h1, .long me, .ref h2, .ref h3, .ref h4, .ref h5, .int tw])), (h1, .inl (cI, 165, .inl f)), (h2, .inl (cI, 165, .inl as))]) (k := 0) (n := 0) (run_S (As := [.int p2, .int 1, .int 10]) (rest := []) ⟨hx, hb, hml, hown, hts⟩ (mX7_in l D cI cJ cZ cO p2 1 10 H.size) (va_cwS 3 hts gX7_undetected_X7_in rfl rfl rfl (by decide +kernel) ⟨Nat.le_of_ble_eq_true rfl, Nat.le_of_ble_eq_true rfl⟩) hK hN hP hD [] (by decide) rfl rfl rfl hl.1 (Nat.le_of_ble_eq_true rfl) dX7_undetected_26 ⟨Nat.le_of_ble_eq_true rfl, Nat.le_of_ble_eq_true rfl⟩) hP hD hS hA [] [0, 1, 2] rfl rfl (by decide) (by decide) (Nat.le_of_ble_eq_true rfl) (Nat.le_of_ble_eq_true rfl) (fun H locs hP hD hS => ?_)
      have hP : va_P D vwCl [(h0, .inr (7, [.ref h1, .long me, .ref h2, .ref h3, .ref h4, .ref h5, .int tw])), (h1, .inl (cI, 165, .inl f)), (h2, .inl (cI, 165, .inl as))] H := hP
      have hD : va_D A [(h0, .inr (7, [.ref h1, .long me, .ref h2, .ref h3, .ref h4, .ref h5, .int tw])), (h1, .inl (cI, 165, .inl f)), (h2, .inl (cI, 165, .inl as))] := hD
      refine lv_if_eq (tgt := 61) hx hb dX7_undetected_29 (by decide) (fun c10 => ?_) (fun c10 => ?_)
      · refine lv_iconst (v := 0) hx hb dX7_undetected_61 (by decide) ?_
        refine lv_istore (lv' := [(5, .int 0), (0, .ref h0), (1, .int p0), (2, .int p1), (3, .int p2), (4, .int p3)]) hx hb dX7_undetected_62 hl (by decide) rfl (fun ls hl => ?_)
        refine lv_aload_n hx hb dX7_undetected_64 rfl (lv_at hl 1 rfl) ?_
        refine lv_iload hx hb dX7_undetected_65 (lv_at hl 0 rfl) ?_
        refine lv_if_ne (tgt := 74) hx hb dX7_undetected_67 (by decide) (fun h => absurd rfl h) (fun _ => ?_)
        refine lv_iconst (v := 1) hx hb dX7_undetected_70 (by decide) ?_
        refine lv_goto (tgt := 90) hx hb dX7_undetected_71 (by decide) ?_
        refine va_put (D := D) (ci := 7) (v := .int 1) (ty := .int) (C := RX7) (T := TX7) (N := 7) hx hb hts hi7 tyX7 tyX7_ok nmX7 hown hK hP hD hS 0 rfl rfl 6 (by decide) (hts (.fieldLink RX7 30 "GridInverterModel" "thrown" "I") (by decide +kernel)) (fun _ h9 => h9) rfl (by decide +kernel) rfl rfl (Nat.le_of_ble_eq_true rfl) dX7_undetected_90 (fun H locs hP hD hS => ?_)
        have hP : va_P D vwCl [(h0, .inr (7, [.ref h1, .long me, .ref h2, .ref h3, .ref h4, .ref h5, .int 1])), (h1, .inl (cI, 165, .inl f)), (h2, .inl (cI, 165, .inl as))] H := hP
        have hD : va_D A [(h0, .inr (7, [.ref h1, .long me, .ref h2, .ref h3, .ref h4, .ref h5, .int 1])), (h1, .inl (cI, 165, .inl f)), (h2, .inl (cI, 165, .inl as))] := hD
        refine lv_iconst (v := 0) hx hb dX7_undetected_93 (by decide) ?_
        refine lv_istore (lv' := [(6, .int 0), (5, .int 0), (0, .ref h0), (1, .int p0), (2, .int p1), (3, .int p2), (4, .int p3)]) hx hb dX7_undetected_94 hl (by decide) rfl (fun ls hl => ?_)
        refine lv_iconst (v := 0) hx hb dX7_undetected_96 (by decide) ?_
        refine lv_istore (lv' := [(7, .int 0), (6, .int 0), (5, .int 0), (0, .ref h0), (1, .int p0), (2, .int p1), (3, .int p2), (4, .int p3)]) hx hb dX7_undetected_97 hl (by decide) rfl (fun ls hl => ?_)
        refine lv_iload hx hb dX7_undetected_99 (lv_at hl 0 rfl) ?_
        refine lv_iload_n hx hb dX7_undetected_101 rfl (lv_at hl 6 rfl) ?_
        have K158 : ∀ (H : Heap) (locs : List Loc) (ls : Array Slot), va_P D vwCl [(h0, .inr (7, [.ref h1, .long me, .ref h2, .ref h3, .ref h4, .ref h5, .int 1])), (h1, .inl (cI, 165, .inl f)), (h2, .inl (cI, 165, .inl as))] H → va_D A [(h0, .inr (7, [.ref h1, .long me, .ref h2, .ref h3, .ref h4, .ref h5, .int 1])), (h1, .inl (cI, 165, .inl f)), (h2, .inl (cI, 165, .inl as))] → va_S A s.heap H locs → lv_has ls 8 [(0, .ref h0), (1, .int p0), (2, .int p1), (3, .int p2), (4, .int p3), (5, .int 0), (6, .int 0), (7, .int 0)] → W p l e ({ frames := 5, cells := 0, slots := 0, locals := 110 } : Room) s m args below meth c H locs 0 0 Q (F0 m 158 ls []) := by
          intro  H locs ls  hP hD hS hl
          refine lv_iload hx hb dX7_undetected_158 (lv_at hl 6 rfl) ?_
          exact hret _ _ _ _ _ _ _ _ (by first | with_reducible rfl | (simp only [r_X7_undetected, v_h0_thrown_X7_undetected, a_h2_X7_undetected, if_neg c2, if_neg c6, if_pos c10]; done) | rfl) (by first | with_reducible rfl | (simp only [r_X7_undetected, v_h0_thrown_X7_undetected, a_h2_X7_undetected, if_neg c2, if_neg c6, if_pos c10]; done) | rfl) hP hD hS (Nat.le_of_ble_eq_true rfl) (Nat.le_of_ble_eq_true rfl) dX7_undetected_160
        refine lv_icmp_ge (tgt := 158) hx hb dX7_undetected_102 (by decide) (fun c12 => ?_) (fun c12 => ?_)
        · exact K158  _ _ _  (hP.sub [0, 1, 2] rfl) (hD.sub [0, 1, 2] (by decide) rfl) hS (lv_sub hl [3, 4, 5, 6, 7, 2, 1, 0] rfl)
        · refine lv_aload_n hx hb dX7_undetected_105 rfl (lv_at hl 3 rfl) ?_
          refine va_get (D := D) (ci := 7) (v := .int 1) (C := RX7) (T := TX7) (N := 7) hx hb hts hi7 hown hK hP 0 rfl rfl 6 (by decide) (hts (.fieldLink RX7 30 "GridInverterModel" "thrown" "I") (by decide +kernel)) (fun _ h9 => h9) rfl dX7_undetected_106 ?_
          refine lv_if_ne (tgt := 158) hx hb dX7_undetected_109 (by decide) (fun _ => ?_) (fun h => absurd h (by decide))
          exact K158  _ _ _  (hP.sub [0, 1, 2] rfl) (hD.sub [0, 1, 2] (by decide) rfl) hS (lv_sub hl [3, 4, 5, 6, 7, 2, 1, 0] rfl)
      · refine lv_iload hx hb dX7_undetected_32 (lv_at hl 4 rfl) ?_
        refine lv_iconst (v := 1) hx hb dX7_undetected_34 (by decide) ?_
        refine lv_sipush (v := 500) hx hb dX7_undetected_35 (by decide) ?_
        refine call_i (wr := [(h0, .inr (7, [.ref h1, .long me, .ref h2, .ref h3, .ref h4, .ref h5, .int tw])), (h1, .inl (cI, 165, .inl f)), (h2, .inl (cI, 165, .inl as))]) (k := 0) (n := 0) (run_S (As := [.int p3, .int 1, .int 500]) (rest := []) ⟨hx, hb, hml, hown, hts⟩ (mX7_in l D cI cJ cZ cO p3 1 500 H.size) (va_cwS 3 hts gX7_undetected_X7_in rfl rfl rfl (by decide +kernel) ⟨Nat.le_of_ble_eq_true rfl, Nat.le_of_ble_eq_true rfl⟩) hK hN hP hD [] (by decide) rfl rfl rfl hl.1 (Nat.le_of_ble_eq_true rfl) dX7_undetected_38 ⟨Nat.le_of_ble_eq_true rfl, Nat.le_of_ble_eq_true rfl⟩) hP hD hS hA [] [0, 1, 2] rfl rfl (by decide) (by decide) (Nat.le_of_ble_eq_true rfl) (Nat.le_of_ble_eq_true rfl) (fun H locs hP hD hS => ?_)
        have hP : va_P D vwCl [(h0, .inr (7, [.ref h1, .long me, .ref h2, .ref h3, .ref h4, .ref h5, .int tw])), (h1, .inl (cI, 165, .inl f)), (h2, .inl (cI, 165, .inl as))] H := hP
        have hD : va_D A [(h0, .inr (7, [.ref h1, .long me, .ref h2, .ref h3, .ref h4, .ref h5, .int tw])), (h1, .inl (cI, 165, .inl f)), (h2, .inl (cI, 165, .inl as))] := hD
        refine lv_if_eq (tgt := 61) hx hb dX7_undetected_41 (by decide) (fun c14 => ?_) (fun c14 => ?_)
        · refine lv_iconst (v := 0) hx hb dX7_undetected_61 (by decide) ?_
          refine lv_istore (lv' := [(5, .int 0), (0, .ref h0), (1, .int p0), (2, .int p1), (3, .int p2), (4, .int p3)]) hx hb dX7_undetected_62 hl (by decide) rfl (fun ls hl => ?_)
          refine lv_aload_n hx hb dX7_undetected_64 rfl (lv_at hl 1 rfl) ?_
          refine lv_iload hx hb dX7_undetected_65 (lv_at hl 0 rfl) ?_
          refine lv_if_ne (tgt := 74) hx hb dX7_undetected_67 (by decide) (fun h => absurd rfl h) (fun _ => ?_)
          refine lv_iconst (v := 1) hx hb dX7_undetected_70 (by decide) ?_
          refine lv_goto (tgt := 90) hx hb dX7_undetected_71 (by decide) ?_
          refine va_put (D := D) (ci := 7) (v := .int 1) (ty := .int) (C := RX7) (T := TX7) (N := 7) hx hb hts hi7 tyX7 tyX7_ok nmX7 hown hK hP hD hS 0 rfl rfl 6 (by decide) (hts (.fieldLink RX7 30 "GridInverterModel" "thrown" "I") (by decide +kernel)) (fun _ h9 => h9) rfl (by decide +kernel) rfl rfl (Nat.le_of_ble_eq_true rfl) dX7_undetected_90 (fun H locs hP hD hS => ?_)
          have hP : va_P D vwCl [(h0, .inr (7, [.ref h1, .long me, .ref h2, .ref h3, .ref h4, .ref h5, .int 1])), (h1, .inl (cI, 165, .inl f)), (h2, .inl (cI, 165, .inl as))] H := hP
          have hD : va_D A [(h0, .inr (7, [.ref h1, .long me, .ref h2, .ref h3, .ref h4, .ref h5, .int 1])), (h1, .inl (cI, 165, .inl f)), (h2, .inl (cI, 165, .inl as))] := hD
          refine lv_iconst (v := 0) hx hb dX7_undetected_93 (by decide) ?_
          refine lv_istore (lv' := [(6, .int 0), (5, .int 0), (0, .ref h0), (1, .int p0), (2, .int p1), (3, .int p2), (4, .int p3)]) hx hb dX7_undetected_94 hl (by decide) rfl (fun ls hl => ?_)
          refine lv_iconst (v := 0) hx hb dX7_undetected_96 (by decide) ?_
          refine lv_istore (lv' := [(7, .int 0), (6, .int 0), (5, .int 0), (0, .ref h0), (1, .int p0), (2, .int p1), (3, .int p2), (4, .int p3)]) hx hb dX7_undetected_97 hl (by decide) rfl (fun ls hl => ?_)
          refine lv_iload hx hb dX7_undetected_99 (lv_at hl 0 rfl) ?_
          refine lv_iload_n hx hb dX7_undetected_101 rfl (lv_at hl 6 rfl) ?_
          have K158 : ∀ (H : Heap) (locs : List Loc) (ls : Array Slot), va_P D vwCl [(h0, .inr (7, [.ref h1, .long me, .ref h2, .ref h3, .ref h4, .ref h5, .int 1])), (h1, .inl (cI, 165, .inl f)), (h2, .inl (cI, 165, .inl as))] H → va_D A [(h0, .inr (7, [.ref h1, .long me, .ref h2, .ref h3, .ref h4, .ref h5, .int 1])), (h1, .inl (cI, 165, .inl f)), (h2, .inl (cI, 165, .inl as))] → va_S A s.heap H locs → lv_has ls 8 [(0, .ref h0), (1, .int p0), (2, .int p1), (3, .int p2), (4, .int p3), (5, .int 0), (6, .int 0), (7, .int 0)] → W p l e ({ frames := 5, cells := 0, slots := 0, locals := 110 } : Room) s m args below meth c H locs 0 0 Q (F0 m 158 ls []) := by
            intro  H locs ls  hP hD hS hl
            refine lv_iload hx hb dX7_undetected_158 (lv_at hl 6 rfl) ?_
            exact hret _ _ _ _ _ _ _ _ (by first | with_reducible rfl | (simp only [r_X7_undetected, v_h0_thrown_X7_undetected, a_h2_X7_undetected, if_neg c2, if_neg c6, if_neg c10, if_pos c14]; done) | rfl) (by first | with_reducible rfl | (simp only [r_X7_undetected, v_h0_thrown_X7_undetected, a_h2_X7_undetected, if_neg c2, if_neg c6, if_neg c10, if_pos c14]; done) | rfl) hP hD hS (Nat.le_of_ble_eq_true rfl) (Nat.le_of_ble_eq_true rfl) dX7_undetected_160
          refine lv_icmp_ge (tgt := 158) hx hb dX7_undetected_102 (by decide) (fun c16 => ?_) (fun c16 => ?_)
          · exact K158  _ _ _  (hP.sub [0, 1, 2] rfl) (hD.sub [0, 1, 2] (by decide) rfl) hS (lv_sub hl [3, 4, 5, 6, 7, 2, 1, 0] rfl)
          · refine lv_aload_n hx hb dX7_undetected_105 rfl (lv_at hl 3 rfl) ?_
            refine va_get (D := D) (ci := 7) (v := .int 1) (C := RX7) (T := TX7) (N := 7) hx hb hts hi7 hown hK hP 0 rfl rfl 6 (by decide) (hts (.fieldLink RX7 30 "GridInverterModel" "thrown" "I") (by decide +kernel)) (fun _ h9 => h9) rfl dX7_undetected_106 ?_
            refine lv_if_ne (tgt := 158) hx hb dX7_undetected_109 (by decide) (fun _ => ?_) (fun h => absurd h (by decide))
            exact K158  _ _ _  (hP.sub [0, 1, 2] rfl) (hD.sub [0, 1, 2] (by decide) rfl) hS (lv_sub hl [3, 4, 5, 6, 7, 2, 1, 0] rfl)
        · refine lv_iload_n hx hb dX7_undetected_44 rfl (lv_at hl 1 rfl) ?_
          refine lv_iload_n hx hb dX7_undetected_45 rfl (lv_at hl 3 rfl) ?_
          refine lv_iconst (v := 1) hx hb dX7_undetected_46 (by decide) ?_
          refine lv_isub hx hb dX7_undetected_47 ?_
          refine lv_iload_n hx hb dX7_undetected_48 rfl (lv_at hl 2 rfl) ?_
          refine lv_imul hx hb dX7_undetected_49 ?_
          refine lv_iadd hx hb dX7_undetected_50 ?_
          refine lv_sipush (v := 5000) hx hb dX7_undetected_51 (by decide) ?_
          refine lv_icmp_gt (tgt := 61) hx hb dX7_undetected_54 (by decide) (fun c18 => ?_) (fun c18 => ?_)
          · refine lv_iconst (v := 0) hx hb dX7_undetected_61 (by decide) ?_
            refine lv_istore (lv' := [(5, .int 0), (0, .ref h0), (1, .int p0), (2, .int p1), (3, .int p2), (4, .int p3)]) hx hb dX7_undetected_62 hl (by decide) rfl (fun ls hl => ?_)
            refine lv_aload_n hx hb dX7_undetected_64 rfl (lv_at hl 1 rfl) ?_
            refine lv_iload hx hb dX7_undetected_65 (lv_at hl 0 rfl) ?_
            refine lv_if_ne (tgt := 74) hx hb dX7_undetected_67 (by decide) (fun h => absurd rfl h) (fun _ => ?_)
            refine lv_iconst (v := 1) hx hb dX7_undetected_70 (by decide) ?_
            refine lv_goto (tgt := 90) hx hb dX7_undetected_71 (by decide) ?_
            refine va_put (D := D) (ci := 7) (v := .int 1) (ty := .int) (C := RX7) (T := TX7) (N := 7) hx hb hts hi7 tyX7 tyX7_ok nmX7 hown hK hP hD hS 0 rfl rfl 6 (by decide) (hts (.fieldLink RX7 30 "GridInverterModel" "thrown" "I") (by decide +kernel)) (fun _ h9 => h9) rfl (by decide +kernel) rfl rfl (Nat.le_of_ble_eq_true rfl) dX7_undetected_90 (fun H locs hP hD hS => ?_)
            have hP : va_P D vwCl [(h0, .inr (7, [.ref h1, .long me, .ref h2, .ref h3, .ref h4, .ref h5, .int 1])), (h1, .inl (cI, 165, .inl f)), (h2, .inl (cI, 165, .inl as))] H := hP
            have hD : va_D A [(h0, .inr (7, [.ref h1, .long me, .ref h2, .ref h3, .ref h4, .ref h5, .int 1])), (h1, .inl (cI, 165, .inl f)), (h2, .inl (cI, 165, .inl as))] := hD
            refine lv_iconst (v := 0) hx hb dX7_undetected_93 (by decide) ?_
            refine lv_istore (lv' := [(6, .int 0), (5, .int 0), (0, .ref h0), (1, .int p0), (2, .int p1), (3, .int p2), (4, .int p3)]) hx hb dX7_undetected_94 hl (by decide) rfl (fun ls hl => ?_)
            refine lv_iconst (v := 0) hx hb dX7_undetected_96 (by decide) ?_
            refine lv_istore (lv' := [(7, .int 0), (6, .int 0), (5, .int 0), (0, .ref h0), (1, .int p0), (2, .int p1), (3, .int p2), (4, .int p3)]) hx hb dX7_undetected_97 hl (by decide) rfl (fun ls hl => ?_)
            refine lv_iload hx hb dX7_undetected_99 (lv_at hl 0 rfl) ?_
            refine lv_iload_n hx hb dX7_undetected_101 rfl (lv_at hl 6 rfl) ?_
            have K158 : ∀ (H : Heap) (locs : List Loc) (ls : Array Slot), va_P D vwCl [(h0, .inr (7, [.ref h1, .long me, .ref h2, .ref h3, .ref h4, .ref h5, .int 1])), (h1, .inl (cI, 165, .inl f)), (h2, .inl (cI, 165, .inl as))] H → va_D A [(h0, .inr (7, [.ref h1, .long me, .ref h2, .ref h3, .ref h4, .ref h5, .int 1])), (h1, .inl (cI, 165, .inl f)), (h2, .inl (cI, 165, .inl as))] → va_S A s.heap H locs → lv_has ls 8 [(0, .ref h0), (1, .int p0), (2, .int p1), (3, .int p2), (4, .int p3), (5, .int 0), (6, .int 0), (7, .int 0)] → W p l e ({ frames := 5, cells := 0, slots := 0, locals := 110 } : Room) s m args below meth c H locs 0 0 Q (F0 m 158 ls []) := by
              intro  H locs ls  hP hD hS hl
              refine lv_iload hx hb dX7_undetected_158 (lv_at hl 6 rfl) ?_
              exact hret _ _ _ _ _ _ _ _ (by first | with_reducible rfl | (simp only [r_X7_undetected, v_h0_thrown_X7_undetected, a_h2_X7_undetected, if_neg c2, if_neg c6, if_neg c10, if_neg c14, if_pos c18]; done) | rfl) (by first | with_reducible rfl | (simp only [r_X7_undetected, v_h0_thrown_X7_undetected, a_h2_X7_undetected, if_neg c2, if_neg c6, if_neg c10, if_neg c14, if_pos c18]; done) | rfl) hP hD hS (Nat.le_of_ble_eq_true rfl) (Nat.le_of_ble_eq_true rfl) dX7_undetected_160
            refine lv_icmp_ge (tgt := 158) hx hb dX7_undetected_102 (by decide) (fun c20 => ?_) (fun c20 => ?_)
            · exact K158  _ _ _  (hP.sub [0, 1, 2] rfl) (hD.sub [0, 1, 2] (by decide) rfl) hS (lv_sub hl [3, 4, 5, 6, 7, 2, 1, 0] rfl)
            · refine lv_aload_n hx hb dX7_undetected_105 rfl (lv_at hl 3 rfl) ?_
              refine va_get (D := D) (ci := 7) (v := .int 1) (C := RX7) (T := TX7) (N := 7) hx hb hts hi7 hown hK hP 0 rfl rfl 6 (by decide) (hts (.fieldLink RX7 30 "GridInverterModel" "thrown" "I") (by decide +kernel)) (fun _ h9 => h9) rfl dX7_undetected_106 ?_
              refine lv_if_ne (tgt := 158) hx hb dX7_undetected_109 (by decide) (fun _ => ?_) (fun h => absurd h (by decide))
              exact K158  _ _ _  (hP.sub [0, 1, 2] rfl) (hD.sub [0, 1, 2] (by decide) rfl) hS (lv_sub hl [3, 4, 5, 6, 7, 2, 1, 0] rfl)
          · refine lv_iconst (v := 1) hx hb dX7_undetected_57 (by decide) ?_
            refine lv_goto (tgt := 62) hx hb dX7_undetected_58 (by decide) ?_
            refine lv_istore (lv' := [(5, .int 1), (0, .ref h0), (1, .int p0), (2, .int p1), (3, .int p2), (4, .int p3)]) hx hb dX7_undetected_62 hl (by decide) rfl (fun ls hl => ?_)
            refine lv_aload_n hx hb dX7_undetected_64 rfl (lv_at hl 1 rfl) ?_
            refine lv_iload hx hb dX7_undetected_65 (lv_at hl 0 rfl) ?_
            refine lv_if_ne (tgt := 74) hx hb dX7_undetected_67 (by decide) (fun _ => ?_) (fun h => absurd h (by decide))
            refine lv_aload_n hx hb dX7_undetected_74 rfl (lv_at hl 1 rfl) ?_
            refine va_get (D := D) (ci := 7) (v := .ref h1) (C := RX7) (T := TX7) (N := 7) hx hb hts hi7 hown hK hP 0 rfl rfl 0 (by decide) (hts (.fieldLink RX7 7 "GridInverterModel" "at" "[I") (by decide +kernel)) (fun _ h9 => h9) rfl dX7_undetected_75 ?_
            refine lv_bipush (v := 20) hx hb dX7_undetected_78 (by decide) ?_
            refine r_ald hx hb hK hP 1 0 rfl rfl 20 rfl (Nat.le_of_ble_eq_true rfl) (Nat.le_of_ble_eq_true rfl) (v := (f 20)) rfl dX7_undetected_80 ?_
            refine lv_iconst (v := 1) hx hb dX7_undetected_81 (by decide) ?_
            refine lv_icmp_eq (tgt := 89) hx hb dX7_undetected_82 (by decide) (fun c22 => ?_) (fun c22 => ?_)
            · refine lv_iconst (v := 0) hx hb dX7_undetected_89 (by decide) ?_
              refine va_put (D := D) (ci := 7) (v := .int 0) (ty := .int) (C := RX7) (T := TX7) (N := 7) hx hb hts hi7 tyX7 tyX7_ok nmX7 hown hK hP hD hS 0 rfl rfl 6 (by decide) (hts (.fieldLink RX7 30 "GridInverterModel" "thrown" "I") (by decide +kernel)) (fun _ h9 => h9) rfl (by decide +kernel) rfl rfl (Nat.le_of_ble_eq_true rfl) dX7_undetected_90 (fun H locs hP hD hS => ?_)
              have hP : va_P D vwCl [(h0, .inr (7, [.ref h1, .long me, .ref h2, .ref h3, .ref h4, .ref h5, .int 0])), (h1, .inl (cI, 165, .inl f)), (h2, .inl (cI, 165, .inl as))] H := hP
              have hD : va_D A [(h0, .inr (7, [.ref h1, .long me, .ref h2, .ref h3, .ref h4, .ref h5, .int 0])), (h1, .inl (cI, 165, .inl f)), (h2, .inl (cI, 165, .inl as))] := hD
              refine lv_iconst (v := 0) hx hb dX7_undetected_93 (by decide) ?_
              refine lv_istore (lv' := [(6, .int 0), (5, .int 1), (0, .ref h0), (1, .int p0), (2, .int p1), (3, .int p2), (4, .int p3)]) hx hb dX7_undetected_94 hl (by decide) rfl (fun ls hl => ?_)
              refine lv_iconst (v := 0) hx hb dX7_undetected_96 (by decide) ?_
              refine lv_istore (lv' := [(7, .int 0), (6, .int 0), (5, .int 1), (0, .ref h0), (1, .int p0), (2, .int p1), (3, .int p2), (4, .int p3)]) hx hb dX7_undetected_97 hl (by decide) rfl (fun ls hl => ?_)
              obtain ⟨hpN, hp1, hp2⟩ := in_n (lo := 1) (hi := 10) (by decide) (by decide) c10
              have L99 : ∀ (n i : Nat) (H : Heap) (locs : List Loc) (ls : Array Slot), i ≤ p2.toNatClampNeg → p2.toNatClampNeg + 1 ≤ i + n → va_P D vwCl [(h0, .inr (7, [.ref h1, .long me, .ref h2, .ref h3, .ref h4, .ref h5, .int 0])), (h1, .inl (cI, 165, .inl f)), (h2, .inl (cI, 165, .inl (asN f as i)))] H → va_D A [(h0, .inr (7, [.ref h1, .long me, .ref h2, .ref h3, .ref h4, .ref h5, .int 0])), (h1, .inl (cI, 165, .inl f)), (h2, .inl (cI, 165, .inl (asN f as i)))] → va_S A s.heap H locs → lv_has ls 8 [(0, .ref h0), (1, .int p0), (2, .int p1), (3, .int p2), (4, .int p3), (5, .int 1), (6, .int (unN f p0 p1 p3.toNatClampNeg i)), (7, .int (nI i))] → W p l e ({ frames := 5, cells := 0, slots := 0, locals := 110 } : Room) s m args below meth c H locs 0 0 Q (F0 m 99 ls []) := by
                intro n
                induction n with
                | zero => intro i H locs ls hi hin; exact absurd hin (by omega)
                | succ n ih =>
                  intro i H locs ls hi hin hP hD hS hl
                  refine lv_iload hx hb dX7_undetected_99 (lv_at hl 7 rfl) ?_
                  refine lv_iload_n hx hb dX7_undetected_101 rfl (lv_at hl 3 rfl) ?_
                  refine lv_icmp_ge (tgt := 158) hx hb dX7_undetected_102 (by decide) (fun c23 => ?_) (fun c23 => ?_)
                  · have hiN : p2.toNatClampNeg = i := Nat.le_antisymm ((gd_ex hpN (by omega) hi c23)) hi
                    subst hiN
                    have hP : va_P D vwCl [(h0, .inr (7, [.ref h1, .long me, .ref h2, .ref h3, .ref h4, .ref h5, .int 0])), (h1, .inl (cI, 165, .inl f)), (h2, .inl (cI, 165, .inl (asN f as p2.toNatClampNeg)))] H := hP
                    have hD : va_D A [(h0, .inr (7, [.ref h1, .long me, .ref h2, .ref h3, .ref h4, .ref h5, .int 0])), (h1, .inl (cI, 165, .inl f)), (h2, .inl (cI, 165, .inl (asN f as p2.toNatClampNeg)))] := hD
                    have hl : lv_has ls 8 [(0, .ref h0), (1, .int p0), (2, .int p1), (3, .int p2), (4, .int p3), (5, .int 1), (6, .int (unN f p0 p1 p3.toNatClampNeg p2.toNatClampNeg)), (7, .int (nI p2.toNatClampNeg))] := hl
                    refine lv_iload hx hb dX7_undetected_158 (lv_at hl 6 rfl) ?_
                    exact hret _ _ _ _ _ _ _ _ (by first | with_reducible rfl | (simp only [r_X7_undetected, v_h0_thrown_X7_undetected, a_h2_X7_undetected, if_neg c2, if_neg c6, if_neg c10, if_neg c14, if_neg c18, if_pos c22]; done) | rfl) (by first | with_reducible rfl | (simp only [r_X7_undetected, v_h0_thrown_X7_undetected, a_h2_X7_undetected, if_neg c2, if_neg c6, if_neg c10, if_neg c14, if_neg c18, if_pos c22]; done) | rfl) hP hD hS (Nat.le_of_ble_eq_true rfl) (Nat.le_of_ble_eq_true rfl) dX7_undetected_160
                  · have hiN : i < p2.toNatClampNeg := (gd_in hpN (by omega) hi c23)
                    refine lv_aload_n hx hb dX7_undetected_105 rfl (lv_at hl 0 rfl) ?_
                    refine va_get (D := D) (ci := 7) (v := .int 0) (C := RX7) (T := TX7) (N := 7) hx hb hts hi7 hown hK hP 0 rfl rfl 6 (by decide) (hts (.fieldLink RX7 30 "GridInverterModel" "thrown" "I") (by decide +kernel)) (fun _ h9 => h9) rfl dX7_undetected_106 ?_
                    refine lv_if_ne (tgt := 158) hx hb dX7_undetected_109 (by decide) (fun h => absurd rfl h) (fun _ => ?_)
                    refine lv_iload hx hb dX7_undetected_112 (lv_at hl 6 rfl) ?_
                    refine lv_aload_n hx hb dX7_undetected_114 rfl (lv_at hl 0 rfl) ?_
                    refine lv_iload_n hx hb dX7_undetected_115 rfl (lv_at hl 1 rfl) ?_
                    refine lv_iload hx hb dX7_undetected_116 (lv_at hl 7 rfl) ?_
                    refine lv_iload_n hx hb dX7_undetected_118 rfl (lv_at hl 2 rfl) ?_
                    refine lv_imul hx hb dX7_undetected_119 ?_
                    refine lv_iadd hx hb dX7_undetected_120 ?_
                    refine lv_aload_n hx hb dX7_undetected_121 rfl (lv_at hl 0 rfl) ?_
                    refine va_get (D := D) (ci := 7) (v := .ref h1) (C := RX7) (T := TX7) (N := 7) hx hb hts hi7 hown hK hP 0 rfl rfl 0 (by decide) (hts (.fieldLink RX7 7 "GridInverterModel" "at" "[I") (by decide +kernel)) (fun _ h9 => h9) rfl dX7_undetected_122 ?_
                    refine lv_bipush (v := 14) hx hb dX7_undetected_125 (by decide) ?_
                    refine r_ald hx hb hK hP 1 0 rfl rfl 14 rfl (Nat.le_of_ble_eq_true rfl) (Nat.le_of_ble_eq_true rfl) (v := (f 14)) rfl dX7_undetected_127 ?_
                    refine lv_aload_n hx hb dX7_undetected_128 rfl (lv_at hl 0 rfl) ?_
                    refine va_get (D := D) (ci := 7) (v := .ref h1) (C := RX7) (T := TX7) (N := 7) hx hb hts hi7 hown hK hP 0 rfl rfl 0 (by decide) (hts (.fieldLink RX7 7 "GridInverterModel" "at" "[I") (by decide +kernel)) (fun _ h9 => h9) rfl dX7_undetected_129 ?_
                    refine lv_bipush (v := 15) hx hb dX7_undetected_132 (by decide) ?_
                    refine r_ald hx hb hK hP 1 0 rfl rfl 15 rfl (Nat.le_of_ble_eq_true rfl) (Nat.le_of_ble_eq_true rfl) (v := (f 15)) rfl dX7_undetected_134 ?_
                    refine lv_iload hx hb dX7_undetected_135 (lv_at hl 4 rfl) ?_
                    refine call_i (wr := []) (k := 0) (n := 0) (run_V (As := [.int (p0 + ((nI i) * p1)), .int (f 14), .int (f 15), .int p3]) (rest := [.int (unN f p0 p1 p3.toNatClampNeg i)]) ⟨hx, hb, hml, hown, hts⟩ (mX7_tryIsland l D cI cJ cZ cO h0 h1 h2 h3 h4 h5 me 0 f (asN f as i) (p0 + ((nI i) * p1)) (f 14) (f 15) p3 B p3.toNatClampNeg (ok_isG hO (un_ok c2 c6 c10 c18 hiN)) hB (in_n (lo := 1) (hi := 500) (by decide) (by decide) c14).1 (Nat.le_trans (in_n (lo := 1) (hi := 500) (by decide) (by decide) c14).2.2 (by decide)) H.size) (cwV 4 hts gX7_undetected_X7_tryIsland rfl rfl rfl (by decide +kernel) ⟨Nat.le_of_ble_eq_true rfl, Nat.le_of_ble_eq_true rfl⟩) hK hN hP hD [0, 1, 2] (by decide) rfl 7 0 rfl rfl rfl rfl rfl hl.1 (Nat.le_of_ble_eq_true rfl) dX7_undetected_137 ⟨Nat.le_of_ble_eq_true rfl, Nat.le_of_ble_eq_true rfl⟩) hP hD hS hA [0, 1, 2] [] rfl rfl (by decide) (by decide) (Nat.le_of_ble_eq_true rfl) (Nat.le_of_ble_eq_true rfl) (fun H locs hP hD hS => ?_)
                    obtain ⟨x24, ex24⟩ : ∃ zz_, zz_ = (a_h2_X7_tryIsland f (asN f as i)) := ⟨_, rfl⟩
                    have hP : va_P D vwCl [(h0, .inr (7, [.ref h1, .long me, .ref h2, .ref h3, .ref h4, .ref h5, .int 0])), (h1, .inl (cI, 165, .inl f)), (h2, .inl (cI, 165, .inl x24))] H := by rw [ex24]; exact hP
                    have hD : va_D A [(h0, .inr (7, [.ref h1, .long me, .ref h2, .ref h3, .ref h4, .ref h5, .int 0])), (h1, .inl (cI, 165, .inl f)), (h2, .inl (cI, 165, .inl x24))] := by rw [ex24]; exact hD
                    refine lv_topi (fun x25 ex25 => ?_)
                    refine lv_iconst (v := (-1)) hx hb dX7_undetected_140 (by decide) ?_
                    have K149 : ∀ (y28 : Int32) (H : Heap) (locs : List Loc) (ls : Array Slot), y28 = (if (r_X7_tryIsland f (p0 + ((nI i) * p1)) (f 14) (f 15) p3.toNatClampNeg) = (-1) then 1 else 0 : Int32) → va_P D vwCl [(h0, .inr (7, [.ref h1, .long me, .ref h2, .ref h3, .ref h4, .ref h5, .int 0])), (h1, .inl (cI, 165, .inl f)), (h2, .inl (cI, 165, .inl x24))] H → va_D A [(h0, .inr (7, [.ref h1, .long me, .ref h2, .ref h3, .ref h4, .ref h5, .int 0])), (h1, .inl (cI, 165, .inl f)), (h2, .inl (cI, 165, .inl x24))] → va_S A s.heap H locs → lv_has ls 8 [(0, .ref h0), (1, .int p0), (2, .int p1), (3, .int p2), (4, .int p3), (5, .int 1), (6, .int (unN f p0 p1 p3.toNatClampNeg i)), (7, .int (nI i))] → W p l e ({ frames := 5, cells := 0, slots := 0, locals := 110 } : Room) s m args below meth c H locs 0 0 Q (F0 m 149 ls [.int y28, .int (unN f p0 p1 p3.toNatClampNeg i)]) := by
                      intro y28 H locs ls ey28 hP hD hS hl
                      refine lv_iadd hx hb dX7_undetected_149 ?_
                      refine lv_topi (fun x29 ex29 => ?_)
                      refine lv_istore (lv' := [(6, .int x29), (0, .ref h0), (1, .int p0), (2, .int p1), (3, .int p2), (4, .int p3), (5, .int 1), (7, .int (nI i))]) hx hb dX7_undetected_150 hl (by decide) rfl (fun ls hl => ?_)
                      refine lv_iinc (v := (nI (i + 1))) (lv' := [(7, .int (nI (i + 1))), (6, .int x29), (0, .ref h0), (1, .int p0), (2, .int p1), (3, .int p2), (4, .int p3), (5, .int 1)]) hx hb dX7_undetected_152 hl (k := 7) rfl (nI_1 i) (by decide) rfl (fun ls hl => ?_)
                      refine lv_goto (tgt := 99) hx hb dX7_undetected_155 (by decide) ?_
                      have eW : ([(h0, .inr (7, [.ref h1, .long me, .ref h2, .ref h3, .ref h4, .ref h5, .int 0])), (h1, .inl (cI, 165, .inl f)), (h2, .inl (cI, 165, .inl x24))] : va_W) = [(h0, .inr (7, [.ref h1, .long me, .ref h2, .ref h3, .ref h4, .ref h5, .int 0])), (h1, .inl (cI, 165, .inl f)), (h2, .inl (cI, 165, .inl (asN f as (i + 1))))] := (by subst ex24; subst ex25; subst ey28; subst ex29; rfl)
                      have eL : ([(0, .ref h0), (1, .int p0), (2, .int p1), (3, .int p2), (4, .int p3), (5, .int 1), (6, .int x29), (7, .int (nI (i + 1)))] : List (Nat × Value)) = [(0, .ref h0), (1, .int p0), (2, .int p1), (3, .int p2), (4, .int p3), (5, .int 1), (6, .int (unN f p0 p1 p3.toNatClampNeg (i + 1))), (7, .int (nI (i + 1)))] := (by subst ex24; subst ex25; subst ey28; subst ex29; rfl)
                      exact ih (i + 1) H locs ls (by omega) (by omega) (P_eq eW (hP.sub (ws' := [(h0, .inr (7, [.ref h1, .long me, .ref h2, .ref h3, .ref h4, .ref h5, .int 0])), (h1, .inl (cI, 165, .inl f)), (h2, .inl (cI, 165, .inl x24))]) [0, 1, 2] rfl)) (D_eq eW (hD.sub (ws' := [(h0, .inr (7, [.ref h1, .long me, .ref h2, .ref h3, .ref h4, .ref h5, .int 0])), (h1, .inl (cI, 165, .inl f)), (h2, .inl (cI, 165, .inl x24))]) [0, 1, 2] (by decide) rfl)) hS (L_eq eL (lv_sub (l' := [(0, .ref h0), (1, .int p0), (2, .int p1), (3, .int p2), (4, .int p3), (5, .int 1), (6, .int x29), (7, .int (nI (i + 1)))]) hl [2, 3, 4, 5, 6, 7, 1, 0] rfl))
                    refine lv_icmp_ne (tgt := 148) hx hb dX7_undetected_141 (by decide) (fun c27 => ?_) (fun c27 => ?_)
                    · refine lv_iconst (v := 0) hx hb dX7_undetected_148 (by decide) ?_
                      exact K149 _ _ _ _ (by subst ex24; subst ex25; first | with_reducible rfl | (simp only [if_neg c27]; done) | rfl) (hP.sub [0, 1, 2] rfl) (hD.sub [0, 1, 2] (by decide) rfl) hS (lv_sub hl [0, 1, 2, 3, 4, 5, 6, 7] rfl)
                    · refine lv_iconst (v := 1) hx hb dX7_undetected_144 (by decide) ?_
                      refine lv_goto (tgt := 149) hx hb dX7_undetected_145 (by decide) ?_
                      exact K149 _ _ _ _ (by subst ex24; subst ex25; first | with_reducible rfl | (simp only [if_pos c27]; done) | rfl) (hP.sub [0, 1, 2] rfl) (hD.sub [0, 1, 2] (by decide) rfl) hS (lv_sub hl [0, 1, 2, 3, 4, 5, 6, 7] rfl)
              have eW : ([(h0, .inr (7, [.ref h1, .long me, .ref h2, .ref h3, .ref h4, .ref h5, .int 0])), (h1, .inl (cI, 165, .inl f)), (h2, .inl (cI, 165, .inl as))] : va_W) = [(h0, .inr (7, [.ref h1, .long me, .ref h2, .ref h3, .ref h4, .ref h5, .int 0])), (h1, .inl (cI, 165, .inl f)), (h2, .inl (cI, 165, .inl (asN f as 0)))] := by rfl
              have eL : ([(0, .ref h0), (1, .int p0), (2, .int p1), (3, .int p2), (4, .int p3), (5, .int 1), (6, .int 0), (7, .int 0)] : List (Nat × Value)) = [(0, .ref h0), (1, .int p0), (2, .int p1), (3, .int p2), (4, .int p3), (5, .int 1), (6, .int (unN f p0 p1 p3.toNatClampNeg 0)), (7, .int (nI 0))] := by rfl
              exact L99 (p2.toNatClampNeg + 1) 0 H locs ls (by omega) (by omega) (P_eq eW (hP.sub (ws' := [(h0, .inr (7, [.ref h1, .long me, .ref h2, .ref h3, .ref h4, .ref h5, .int 0])), (h1, .inl (cI, 165, .inl f)), (h2, .inl (cI, 165, .inl as))]) [0, 1, 2] rfl)) (D_eq eW (hD.sub (ws' := [(h0, .inr (7, [.ref h1, .long me, .ref h2, .ref h3, .ref h4, .ref h5, .int 0])), (h1, .inl (cI, 165, .inl f)), (h2, .inl (cI, 165, .inl as))]) [0, 1, 2] (by decide) rfl)) hS (L_eq eL (lv_sub (l' := [(0, .ref h0), (1, .int p0), (2, .int p1), (3, .int p2), (4, .int p3), (5, .int 1), (6, .int 0), (7, .int 0)]) hl [3, 4, 5, 6, 7, 2, 1, 0] rfl))
            · refine lv_iconst (v := 2) hx hb dX7_undetected_85 (by decide) ?_
              refine lv_goto (tgt := 90) hx hb dX7_undetected_86 (by decide) ?_
              refine va_put (D := D) (ci := 7) (v := .int 2) (ty := .int) (C := RX7) (T := TX7) (N := 7) hx hb hts hi7 tyX7 tyX7_ok nmX7 hown hK hP hD hS 0 rfl rfl 6 (by decide) (hts (.fieldLink RX7 30 "GridInverterModel" "thrown" "I") (by decide +kernel)) (fun _ h9 => h9) rfl (by decide +kernel) rfl rfl (Nat.le_of_ble_eq_true rfl) dX7_undetected_90 (fun H locs hP hD hS => ?_)
              have hP : va_P D vwCl [(h0, .inr (7, [.ref h1, .long me, .ref h2, .ref h3, .ref h4, .ref h5, .int 2])), (h1, .inl (cI, 165, .inl f)), (h2, .inl (cI, 165, .inl as))] H := hP
              have hD : va_D A [(h0, .inr (7, [.ref h1, .long me, .ref h2, .ref h3, .ref h4, .ref h5, .int 2])), (h1, .inl (cI, 165, .inl f)), (h2, .inl (cI, 165, .inl as))] := hD
              refine lv_iconst (v := 0) hx hb dX7_undetected_93 (by decide) ?_
              refine lv_istore (lv' := [(6, .int 0), (5, .int 1), (0, .ref h0), (1, .int p0), (2, .int p1), (3, .int p2), (4, .int p3)]) hx hb dX7_undetected_94 hl (by decide) rfl (fun ls hl => ?_)
              refine lv_iconst (v := 0) hx hb dX7_undetected_96 (by decide) ?_
              refine lv_istore (lv' := [(7, .int 0), (6, .int 0), (5, .int 1), (0, .ref h0), (1, .int p0), (2, .int p1), (3, .int p2), (4, .int p3)]) hx hb dX7_undetected_97 hl (by decide) rfl (fun ls hl => ?_)
              refine lv_iload hx hb dX7_undetected_99 (lv_at hl 0 rfl) ?_
              refine lv_iload_n hx hb dX7_undetected_101 rfl (lv_at hl 6 rfl) ?_
              have K158 : ∀ (H : Heap) (locs : List Loc) (ls : Array Slot), va_P D vwCl [(h0, .inr (7, [.ref h1, .long me, .ref h2, .ref h3, .ref h4, .ref h5, .int 2])), (h1, .inl (cI, 165, .inl f)), (h2, .inl (cI, 165, .inl as))] H → va_D A [(h0, .inr (7, [.ref h1, .long me, .ref h2, .ref h3, .ref h4, .ref h5, .int 2])), (h1, .inl (cI, 165, .inl f)), (h2, .inl (cI, 165, .inl as))] → va_S A s.heap H locs → lv_has ls 8 [(0, .ref h0), (1, .int p0), (2, .int p1), (3, .int p2), (4, .int p3), (5, .int 1), (6, .int 0), (7, .int 0)] → W p l e ({ frames := 5, cells := 0, slots := 0, locals := 110 } : Room) s m args below meth c H locs 0 0 Q (F0 m 158 ls []) := by
                intro  H locs ls  hP hD hS hl
                refine lv_iload hx hb dX7_undetected_158 (lv_at hl 6 rfl) ?_
                exact hret _ _ _ _ _ _ _ _ (by first | with_reducible rfl | (simp only [r_X7_undetected, v_h0_thrown_X7_undetected, a_h2_X7_undetected, if_neg c2, if_neg c6, if_neg c10, if_neg c14, if_neg c18, if_neg c22]; done) | rfl) (by first | with_reducible rfl | (simp only [r_X7_undetected, v_h0_thrown_X7_undetected, a_h2_X7_undetected, if_neg c2, if_neg c6, if_neg c10, if_neg c14, if_neg c18, if_neg c22]; done) | rfl) hP hD hS (Nat.le_of_ble_eq_true rfl) (Nat.le_of_ble_eq_true rfl) dX7_undetected_160
              refine lv_icmp_ge (tgt := 158) hx hb dX7_undetected_102 (by decide) (fun c31 => ?_) (fun c31 => ?_)
              · exact K158  _ _ _  (hP.sub [0, 1, 2] rfl) (hD.sub [0, 1, 2] (by decide) rfl) hS (lv_sub hl [3, 4, 5, 6, 7, 2, 1, 0] rfl)
              · refine lv_aload_n hx hb dX7_undetected_105 rfl (lv_at hl 3 rfl) ?_
                refine va_get (D := D) (ci := 7) (v := .int 2) (C := RX7) (T := TX7) (N := 7) hx hb hts hi7 hown hK hP 0 rfl rfl 6 (by decide) (hts (.fieldLink RX7 30 "GridInverterModel" "thrown" "I") (by decide +kernel)) (fun _ h9 => h9) rfl dX7_undetected_106 ?_
                refine lv_if_ne (tgt := 158) hx hb dX7_undetected_109 (by decide) (fun _ => ?_) (fun h => absurd h (by decide))
                exact K158  _ _ _  (hP.sub [0, 1, 2] rfl) (hD.sub [0, 1, 2] (by decide) rfl) hS (lv_sub hl [3, 4, 5, 6, 7, 2, 1, 0] rfl)

def r_X7_relockTime (f : Nat → Int32) (p0 : Int32) (p1 : Int32) : Int32 := (if (r_X7_in p0 (-500000) 500000) = 0 then 0 else (if (r_X7_in p1 1 2000) = 0 then 0 else (if (r_X7_hasLock (itf (rlG f p0) (rlE f p0 p1.toNatClampNeg))) = 0 then (-1) else (nI (rlE f p0 p1.toNatClampNeg)) : Int32) : Int32) : Int32)
def v_h0_thrown_X7_relockTime (p0 : Int32) (p1 : Int32) : Int32 := (if (r_X7_in p0 (-500000) 500000) = 0 then 1 else (if (r_X7_in p1 1 2000) = 0 then 1 else 0 : Int32) : Int32)
def a_h2_X7_relockTime (f : Nat → Int32) (as : Nat → Int32) (p0 : Int32) (p1 : Int32) : Nat → Int32 := (if (r_X7_in p0 (-500000) 500000) = 0 then as else (if (r_X7_in p1 1 2000) = 0 then as else (a_h2_X7_putAside f as) : Nat → Int32) : Nat → Int32)
set_option maxHeartbeats 4000000 in
set_option maxRecDepth 100000 in
theorem mX7_relockTime (l : Launch) (D : va_G) (cI cJ cZ cO : ClassId) (h0 : Nat) (h1 : Nat) (h2 : Nat) (h3 : Nat) (h4 : Nat) (h5 : Nat) (me : Int64) (tw : Int32) (f : Nat → Int32) (as : Nat → Int32) (p0 : Int32) (p1 : Int32) (B : Nat) (hO : Ok f B) (hB : B + 2000 < 2147483647) : MI l yX7_relockTime wsX7_relockTime ({ frames := 4, cells := 0, slots := 0, locals := 84 } : Room) D (tysK cI cJ cZ cO) [.ref h0, .int p0, .int p1] [(h0, .inr (7, [.ref h1, .long me, .ref h2, .ref h3, .ref h4, .ref h5, .int tw])), (h1, .inl (cI, 165, .inl f)), (h2, .inl (cI, 165, .inl as))] (r_X7_relockTime f p0 p1) [(h0, .inr (7, [.ref h1, .long me, .ref h2, .ref h3, .ref h4, .ref h5, .int (v_h0_thrown_X7_relockTime p0 p1)])), (h1, .inl (cI, 165, .inl f)), (h2, .inl (cI, 165, .inl (a_h2_X7_relockTime f as p0 p1)))] := by
  refine MI.of (cc := cX7_relockTime) (maxL := 5) (ret := .int) (by decide) rfl (Nat.le_of_ble_eq_true rfl) rfl ?_
  intro p e s m args below meth c A Q ls H locs B hS hP hD hl hret
  obtain ⟨hx, hb, hml, hown, hts, hK, hN, hA, hlocks⟩ := B
  have hi7 : ∀ w ∈ u_ws RX7 TX7 7, w ∈ wsX7_relockTime := by decide +kernel
  have hl : lv_has ls 5 [(0, .ref h0), (1, .int p0), (2, .int p1)] := hl
  refine lv_aload_n hx hb dX7_relockTime_0 rfl (lv_at hl 0 rfl) ?_
  refine lv_iload_n hx hb dX7_relockTime_1 rfl (lv_at hl 1 rfl) ?_
  refine lv_ldc hx hb hown (hts (.constant RX7 41 (-500000)) (by decide +kernel)) dX7_relockTime_2 ?_
  refine lv_ldc hx hb hown (hts (.constant RX7 42 (500000)) (by decide +kernel)) dX7_relockTime_4 ?_
  refine call_i (wr := [(h0, .inr (7, [.ref h1, .long me, .ref h2, .ref h3, .ref h4, .ref h5, .int tw])), (h1, .inl (cI, 165, .inl f)), (h2, .inl (cI, 165, .inl as))]) (k := 0) (n := 0) (run_S (As := [.int p0, .int (-500000), .int 500000]) (rest := [.ref h0]) ⟨hx, hb, hml, hown, hts⟩ (mX7_in l D cI cJ cZ cO p0 (-500000) 500000 H.size) (va_cwS 3 hts gX7_relockTime_X7_in rfl rfl rfl (by decide +kernel) ⟨Nat.le_of_ble_eq_true rfl, Nat.le_of_ble_eq_true rfl⟩) hK hN hP hD [] (by decide) rfl rfl rfl hl.1 (Nat.le_of_ble_eq_true rfl) dX7_relockTime_6 ⟨Nat.le_of_ble_eq_true rfl, Nat.le_of_ble_eq_true rfl⟩) hP hD hS hA [] [0, 1, 2] rfl rfl (by decide) (by decide) (Nat.le_of_ble_eq_true rfl) (Nat.le_of_ble_eq_true rfl) (fun H locs hP hD hS => ?_)
  have hP : va_P D vwCl [(h0, .inr (7, [.ref h1, .long me, .ref h2, .ref h3, .ref h4, .ref h5, .int tw])), (h1, .inl (cI, 165, .inl f)), (h2, .inl (cI, 165, .inl as))] H := hP
  have hD : va_D A [(h0, .inr (7, [.ref h1, .long me, .ref h2, .ref h3, .ref h4, .ref h5, .int tw])), (h1, .inl (cI, 165, .inl f)), (h2, .inl (cI, 165, .inl as))] := hD
  refine lv_topi (fun x1 ex1 => ?_)
  refine lv_if_eq (tgt := 27) hx hb dX7_relockTime_9 (by decide) (fun c3 => ?_) (fun c3 => ?_)
  · refine lv_iconst (v := 1) hx hb dX7_relockTime_27 (by decide) ?_
    refine va_put (D := D) (ci := 7) (v := .int 1) (ty := .int) (C := RX7) (T := TX7) (N := 7) hx hb hts hi7 tyX7 tyX7_ok nmX7 hown hK hP hD hS 0 rfl rfl 6 (by decide) (hts (.fieldLink RX7 30 "GridInverterModel" "thrown" "I") (by decide +kernel)) (fun _ h9 => h9) rfl (by decide +kernel) rfl rfl (Nat.le_of_ble_eq_true rfl) dX7_relockTime_28 (fun H locs hP hD hS => ?_)
    have hP : va_P D vwCl [(h0, .inr (7, [.ref h1, .long me, .ref h2, .ref h3, .ref h4, .ref h5, .int 1])), (h1, .inl (cI, 165, .inl f)), (h2, .inl (cI, 165, .inl as))] H := hP
    have hD : va_D A [(h0, .inr (7, [.ref h1, .long me, .ref h2, .ref h3, .ref h4, .ref h5, .int 1])), (h1, .inl (cI, 165, .inl f)), (h2, .inl (cI, 165, .inl as))] := hD
    refine lv_aload_n hx hb dX7_relockTime_31 rfl (lv_at hl 0 rfl) ?_
    refine va_get (D := D) (ci := 7) (v := .int 1) (C := RX7) (T := TX7) (N := 7) hx hb hts hi7 hown hK hP 0 rfl rfl 6 (by decide) (hts (.fieldLink RX7 30 "GridInverterModel" "thrown" "I") (by decide +kernel)) (fun _ h9 => h9) rfl dX7_relockTime_32 ?_
    refine lv_if_eq (tgt := 40) hx hb dX7_relockTime_35 (by decide) (fun h => absurd h (by decide)) (fun _ => ?_)
    refine lv_iconst (v := 0) hx hb dX7_relockTime_38 (by decide) ?_
    exact hret _ _ _ _ _ _ _ _ (by subst ex1; first | with_reducible rfl | (simp only [r_X7_relockTime, v_h0_thrown_X7_relockTime, a_h2_X7_relockTime, if_pos c3]; done) | rfl) (by subst ex1; first | with_reducible rfl | (simp only [r_X7_relockTime, v_h0_thrown_X7_relockTime, a_h2_X7_relockTime, if_pos c3]; done) | rfl) hP hD hS (Nat.le_of_ble_eq_true rfl) (Nat.le_of_ble_eq_true rfl) dX7_relockTime_39
  · refine lv_iload_n hx hb dX7_relockTime_12 rfl (lv_at hl 2 rfl) ?_
    refine lv_iconst (v := 1) hx hb dX7_relockTime_13 (by decide) ?_
    refine lv_sipush (v := 2000) hx hb dX7_relockTime_14 (by decide) ?_
    refine call_i (wr := [(h0, .inr (7, [.ref h1, .long me, .ref h2, .ref h3, .ref h4, .ref h5, .int tw])), (h1, .inl (cI, 165, .inl f)), (h2, .inl (cI, 165, .inl as))]) (k := 0) (n := 0) (run_S (As := [.int p1, .int 1, .int 2000]) (rest := [.ref h0]) ⟨hx, hb, hml, hown, hts⟩ (mX7_in l D cI cJ cZ cO p1 1 2000 H.size) (va_cwS 3 hts gX7_relockTime_X7_in rfl rfl rfl (by decide +kernel) ⟨Nat.le_of_ble_eq_true rfl, Nat.le_of_ble_eq_true rfl⟩) hK hN hP hD [] (by decide) rfl rfl rfl hl.1 (Nat.le_of_ble_eq_true rfl) dX7_relockTime_17 ⟨Nat.le_of_ble_eq_true rfl, Nat.le_of_ble_eq_true rfl⟩) hP hD hS hA [] [0, 1, 2] rfl rfl (by decide) (by decide) (Nat.le_of_ble_eq_true rfl) (Nat.le_of_ble_eq_true rfl) (fun H locs hP hD hS => ?_)
    have hP : va_P D vwCl [(h0, .inr (7, [.ref h1, .long me, .ref h2, .ref h3, .ref h4, .ref h5, .int tw])), (h1, .inl (cI, 165, .inl f)), (h2, .inl (cI, 165, .inl as))] H := hP
    have hD : va_D A [(h0, .inr (7, [.ref h1, .long me, .ref h2, .ref h3, .ref h4, .ref h5, .int tw])), (h1, .inl (cI, 165, .inl f)), (h2, .inl (cI, 165, .inl as))] := hD
    refine lv_if_eq (tgt := 27) hx hb dX7_relockTime_20 (by decide) (fun c5 => ?_) (fun c5 => ?_)
    · refine lv_iconst (v := 1) hx hb dX7_relockTime_27 (by decide) ?_
      refine va_put (D := D) (ci := 7) (v := .int 1) (ty := .int) (C := RX7) (T := TX7) (N := 7) hx hb hts hi7 tyX7 tyX7_ok nmX7 hown hK hP hD hS 0 rfl rfl 6 (by decide) (hts (.fieldLink RX7 30 "GridInverterModel" "thrown" "I") (by decide +kernel)) (fun _ h9 => h9) rfl (by decide +kernel) rfl rfl (Nat.le_of_ble_eq_true rfl) dX7_relockTime_28 (fun H locs hP hD hS => ?_)
      have hP : va_P D vwCl [(h0, .inr (7, [.ref h1, .long me, .ref h2, .ref h3, .ref h4, .ref h5, .int 1])), (h1, .inl (cI, 165, .inl f)), (h2, .inl (cI, 165, .inl as))] H := hP
      have hD : va_D A [(h0, .inr (7, [.ref h1, .long me, .ref h2, .ref h3, .ref h4, .ref h5, .int 1])), (h1, .inl (cI, 165, .inl f)), (h2, .inl (cI, 165, .inl as))] := hD
      refine lv_aload_n hx hb dX7_relockTime_31 rfl (lv_at hl 0 rfl) ?_
      refine va_get (D := D) (ci := 7) (v := .int 1) (C := RX7) (T := TX7) (N := 7) hx hb hts hi7 hown hK hP 0 rfl rfl 6 (by decide) (hts (.fieldLink RX7 30 "GridInverterModel" "thrown" "I") (by decide +kernel)) (fun _ h9 => h9) rfl dX7_relockTime_32 ?_
      refine lv_if_eq (tgt := 40) hx hb dX7_relockTime_35 (by decide) (fun h => absurd h (by decide)) (fun _ => ?_)
      refine lv_iconst (v := 0) hx hb dX7_relockTime_38 (by decide) ?_
      exact hret _ _ _ _ _ _ _ _ (by subst ex1; first | with_reducible rfl | (simp only [r_X7_relockTime, v_h0_thrown_X7_relockTime, a_h2_X7_relockTime, if_neg c3, if_pos c5]; done) | rfl) (by subst ex1; first | with_reducible rfl | (simp only [r_X7_relockTime, v_h0_thrown_X7_relockTime, a_h2_X7_relockTime, if_neg c3, if_pos c5]; done) | rfl) hP hD hS (Nat.le_of_ble_eq_true rfl) (Nat.le_of_ble_eq_true rfl) dX7_relockTime_39
    · refine lv_iconst (v := 0) hx hb dX7_relockTime_23 (by decide) ?_
      refine lv_goto (tgt := 28) hx hb dX7_relockTime_24 (by decide) ?_
      refine va_put (D := D) (ci := 7) (v := .int 0) (ty := .int) (C := RX7) (T := TX7) (N := 7) hx hb hts hi7 tyX7 tyX7_ok nmX7 hown hK hP hD hS 0 rfl rfl 6 (by decide) (hts (.fieldLink RX7 30 "GridInverterModel" "thrown" "I") (by decide +kernel)) (fun _ h9 => h9) rfl (by decide +kernel) rfl rfl (Nat.le_of_ble_eq_true rfl) dX7_relockTime_28 (fun H locs hP hD hS => ?_)
      have hP : va_P D vwCl [(h0, .inr (7, [.ref h1, .long me, .ref h2, .ref h3, .ref h4, .ref h5, .int 0])), (h1, .inl (cI, 165, .inl f)), (h2, .inl (cI, 165, .inl as))] H := hP
      have hD : va_D A [(h0, .inr (7, [.ref h1, .long me, .ref h2, .ref h3, .ref h4, .ref h5, .int 0])), (h1, .inl (cI, 165, .inl f)), (h2, .inl (cI, 165, .inl as))] := hD
      refine lv_aload_n hx hb dX7_relockTime_31 rfl (lv_at hl 0 rfl) ?_
      refine va_get (D := D) (ci := 7) (v := .int 0) (C := RX7) (T := TX7) (N := 7) hx hb hts hi7 hown hK hP 0 rfl rfl 6 (by decide) (hts (.fieldLink RX7 30 "GridInverterModel" "thrown" "I") (by decide +kernel)) (fun _ h9 => h9) rfl dX7_relockTime_32 ?_
      refine lv_if_eq (tgt := 40) hx hb dX7_relockTime_35 (by decide) (fun _ => ?_) (fun h => absurd (by decide) h)
      refine lv_aload_n hx hb dX7_relockTime_40 rfl (lv_at hl 0 rfl) ?_
      refine call_v (wr := []) (k := 0) (n := 0) (run_V (As := []) (rest := []) ⟨hx, hb, hml, hown, hts⟩ (mX7_putAside l D cI cJ cZ cO h0 h1 h2 h3 h4 h5 me 0 f as H.size) (cwV 0 hts gX7_relockTime_X7_putAside rfl rfl rfl (by decide +kernel) ⟨Nat.le_of_ble_eq_true rfl, Nat.le_of_ble_eq_true rfl⟩) hK hN hP hD [0, 1, 2] (by decide) rfl 7 0 rfl rfl rfl rfl rfl hl.1 (Nat.le_of_ble_eq_true rfl) dX7_relockTime_41 ⟨Nat.le_of_ble_eq_true rfl, Nat.le_of_ble_eq_true rfl⟩) hP hD hS hA [0, 1, 2] [] rfl rfl (by decide) (by decide) (Nat.le_of_ble_eq_true rfl) (Nat.le_of_ble_eq_true rfl) (fun _ H locs hP hD hS => ?_)
      have hP : va_P D vwCl [(h0, .inr (7, [.ref h1, .long me, .ref h2, .ref h3, .ref h4, .ref h5, .int 0])), (h1, .inl (cI, 165, .inl f)), (h2, .inl (cI, 165, .inl (a_h2_X7_putAside f as)))] H := hP
      have hD : va_D A [(h0, .inr (7, [.ref h1, .long me, .ref h2, .ref h3, .ref h4, .ref h5, .int 0])), (h1, .inl (cI, 165, .inl f)), (h2, .inl (cI, 165, .inl (a_h2_X7_putAside f as)))] := hD
      refine lv_aload_n hx hb dX7_relockTime_44 rfl (lv_at hl 0 rfl) ?_
      refine va_get (D := D) (ci := 7) (v := .ref h1) (C := RX7) (T := TX7) (N := 7) hx hb hts hi7 hown hK hP 0 rfl rfl 0 (by decide) (hts (.fieldLink RX7 7 "GridInverterModel" "at" "[I") (by decide +kernel)) (fun _ h9 => h9) rfl dX7_relockTime_45 ?_
      refine lv_iconst (v := 3) hx hb dX7_relockTime_48 (by decide) ?_
      refine lv_aload_n hx hb dX7_relockTime_49 rfl (lv_at hl 0 rfl) ?_
      refine va_get (D := D) (ci := 7) (v := .ref h1) (C := RX7) (T := TX7) (N := 7) hx hb hts hi7 hown hK hP 0 rfl rfl 0 (by decide) (hts (.fieldLink RX7 7 "GridInverterModel" "at" "[I") (by decide +kernel)) (fun _ h9 => h9) rfl dX7_relockTime_50 ?_
      refine lv_iconst (v := 3) hx hb dX7_relockTime_53 (by decide) ?_
      refine r_ald hx hb hK hP 1 0 rfl rfl 3 rfl (Nat.le_of_ble_eq_true rfl) (Nat.le_of_ble_eq_true rfl) (v := (f 3)) rfl dX7_relockTime_54 ?_
      refine lv_iload_n hx hb dX7_relockTime_55 rfl (lv_at hl 1 rfl) ?_
      refine lv_iadd hx hb dX7_relockTime_56 ?_
      refine call_i (wr := [(h0, .inr (7, [.ref h1, .long me, .ref h2, .ref h3, .ref h4, .ref h5, .int 0])), (h1, .inl (cI, 165, .inl f)), (h2, .inl (cI, 165, .inl (a_h2_X7_putAside f as)))]) (k := 0) (n := 0) (run_S (As := [.int ((f 3) + p0)]) (rest := [.int 3, .ref h1]) ⟨hx, hb, hml, hown, hts⟩ (mX7_round l D cI cJ cZ cO ((f 3) + p0) H.size) (va_cwS 1 hts gX7_relockTime_X7_round rfl rfl rfl (by decide +kernel) ⟨Nat.le_of_ble_eq_true rfl, Nat.le_of_ble_eq_true rfl⟩) hK hN hP hD [] (by decide) rfl rfl rfl hl.1 (Nat.le_of_ble_eq_true rfl) dX7_relockTime_57 ⟨Nat.le_of_ble_eq_true rfl, Nat.le_of_ble_eq_true rfl⟩) hP hD hS hA [] [0, 1, 2] rfl rfl (by decide) (by decide) (Nat.le_of_ble_eq_true rfl) (Nat.le_of_ble_eq_true rfl) (fun H locs hP hD hS => ?_)
      have hP : va_P D vwCl [(h0, .inr (7, [.ref h1, .long me, .ref h2, .ref h3, .ref h4, .ref h5, .int 0])), (h1, .inl (cI, 165, .inl f)), (h2, .inl (cI, 165, .inl (a_h2_X7_putAside f as)))] H := hP
      have hD : va_D A [(h0, .inr (7, [.ref h1, .long me, .ref h2, .ref h3, .ref h4, .ref h5, .int 0])), (h1, .inl (cI, 165, .inl f)), (h2, .inl (cI, 165, .inl (a_h2_X7_putAside f as)))] := hD
      refine r_ast hx hb hK hP hD hS 1 0 rfl rfl 3 rfl (Nat.le_of_ble_eq_true rfl) (Nat.le_of_ble_eq_true rfl) dX7_relockTime_60 (fun H locs hP hD hS => ?_)
      obtain ⟨x6, ex6⟩ : ∃ zz_, zz_ = (upd f 3 (r_X7_round ((f 3) + p0))) := ⟨_, rfl⟩
      have hP : va_P D vwCl [(h0, .inr (7, [.ref h1, .long me, .ref h2, .ref h3, .ref h4, .ref h5, .int 0])), (h1, .inl (cI, 165, .inl x6)), (h2, .inl (cI, 165, .inl (a_h2_X7_putAside f as)))] H := by rw [ex6]; exact hP
      have hD : va_D A [(h0, .inr (7, [.ref h1, .long me, .ref h2, .ref h3, .ref h4, .ref h5, .int 0])), (h1, .inl (cI, 165, .inl x6)), (h2, .inl (cI, 165, .inl (a_h2_X7_putAside f as)))] := by rw [ex6]; exact hD
      refine lv_aload_n hx hb dX7_relockTime_61 rfl (lv_at hl 0 rfl) ?_
      refine va_get (D := D) (ci := 7) (v := .ref h1) (C := RX7) (T := TX7) (N := 7) hx hb hts hi7 hown hK hP 0 rfl rfl 0 (by decide) (hts (.fieldLink RX7 7 "GridInverterModel" "at" "[I") (by decide +kernel)) (fun _ h9 => h9) rfl dX7_relockTime_62 ?_
      refine lv_bipush (v := 7) hx hb dX7_relockTime_65 (by decide) ?_
      refine lv_iconst (v := 0) hx hb dX7_relockTime_67 (by decide) ?_
      refine r_ast hx hb hK hP hD hS 1 0 rfl rfl 7 rfl (Nat.le_of_ble_eq_true rfl) (Nat.le_of_ble_eq_true rfl) dX7_relockTime_68 (fun H locs hP hD hS => ?_)
      have hP : va_P D vwCl [(h0, .inr (7, [.ref h1, .long me, .ref h2, .ref h3, .ref h4, .ref h5, .int 0])), (h1, .inl (cI, 165, .inl (upd x6 7 0))), (h2, .inl (cI, 165, .inl (a_h2_X7_putAside f as)))] H := hP
      have hD : va_D A [(h0, .inr (7, [.ref h1, .long me, .ref h2, .ref h3, .ref h4, .ref h5, .int 0])), (h1, .inl (cI, 165, .inl (upd x6 7 0))), (h2, .inl (cI, 165, .inl (a_h2_X7_putAside f as)))] := hD
      refine lv_iconst (v := 0) hx hb dX7_relockTime_69 (by decide) ?_
      refine lv_istore_n (lv' := [(3, .int 0), (0, .ref h0), (1, .int p0), (2, .int p1)]) hx hb dX7_relockTime_70 rfl hl (by decide) rfl (fun ls hl => ?_)
      obtain ⟨hpN, hp1, hp2⟩ := in_n (lo := 1) (hi := 2000) (by decide) (by decide) c5
      have L71 : ∀ (n i : Nat) (H : Heap) (locs : List Loc) (ls : Array Slot), i ≤ p1.toNatClampNeg → p1.toNatClampNeg + 1 ≤ i + n → stF (fun j => ¬ r_X7_hasLock (itf (rlG f p0) j) = 0) (p1.toNatClampNeg - i) i = (rlE f p0 p1.toNatClampNeg) → va_P D vwCl [(h0, .inr (7, [.ref h1, .long me, .ref h2, .ref h3, .ref h4, .ref h5, .int 0])), (h1, .inl (cI, 165, .inl (itf (rlG f p0) i))), (h2, .inl (cI, 165, .inl (a_h2_X7_putAside f as)))] H → va_D A [(h0, .inr (7, [.ref h1, .long me, .ref h2, .ref h3, .ref h4, .ref h5, .int 0])), (h1, .inl (cI, 165, .inl (itf (rlG f p0) i))), (h2, .inl (cI, 165, .inl (a_h2_X7_putAside f as)))] → va_S A s.heap H locs → lv_has ls 5 [(0, .ref h0), (1, .int p0), (2, .int p1), (3, .int (nI i))] → W p l e ({ frames := 4, cells := 0, slots := 0, locals := 84 } : Room) s m args below meth c H locs 0 0 Q (F0 m 71 ls []) := by
        intro n
        induction n with
        | zero => intro i H locs ls hi hin; exact absurd hin (by omega)
        | succ n ih =>
          intro i H locs ls hi hin he hP hD hS hl
          refine lv_iload_n hx hb dX7_relockTime_71 rfl (lv_at hl 3 rfl) ?_
          refine lv_iload_n hx hb dX7_relockTime_72 rfl (lv_at hl 2 rfl) ?_
          refine lv_icmp_ge (tgt := 93) hx hb dX7_relockTime_73 (by decide) (fun c7 => ?_) (fun c7 => ?_)
          · have hiN : (rlE f p0 p1.toNatClampNeg) = i := st_top he (gd_ex hpN (by omega) hi c7)
            subst hiN
            have hP : va_P D vwCl [(h0, .inr (7, [.ref h1, .long me, .ref h2, .ref h3, .ref h4, .ref h5, .int 0])), (h1, .inl (cI, 165, .inl (itf (rlG f p0) (rlE f p0 p1.toNatClampNeg)))), (h2, .inl (cI, 165, .inl (a_h2_X7_putAside f as)))] H := hP
            have hD : va_D A [(h0, .inr (7, [.ref h1, .long me, .ref h2, .ref h3, .ref h4, .ref h5, .int 0])), (h1, .inl (cI, 165, .inl (itf (rlG f p0) (rlE f p0 p1.toNatClampNeg)))), (h2, .inl (cI, 165, .inl (a_h2_X7_putAside f as)))] := hD
            have hl : lv_has ls 5 [(0, .ref h0), (1, .int p0), (2, .int p1), (3, .int (nI (rlE f p0 p1.toNatClampNeg)))] := hl
            refine lv_aload_n hx hb dX7_relockTime_93 rfl (lv_at hl 0 rfl) ?_
            refine call_i (wr := [(h2, .inl (cI, 165, .inl (a_h2_X7_putAside f as)))]) (k := 0) (n := 0) (run_V (As := []) (rest := []) ⟨hx, hb, hml, hown, hts⟩ (mX7_hasLock l D cI cJ cZ cO h0 h1 h2 h3 h4 h5 me 0 (itf (rlG f p0) (rlE f p0 p1.toNatClampNeg)) H.size) (cwV 0 hts gX7_relockTime_X7_hasLock rfl rfl rfl (by decide +kernel) ⟨Nat.le_of_ble_eq_true rfl, Nat.le_of_ble_eq_true rfl⟩) hK hN hP hD [0, 1] (by decide) rfl 7 0 rfl rfl rfl rfl rfl hl.1 (Nat.le_of_ble_eq_true rfl) dX7_relockTime_94 ⟨Nat.le_of_ble_eq_true rfl, Nat.le_of_ble_eq_true rfl⟩) hP hD hS hA [0, 1] [2] rfl rfl (by decide) (by decide) (Nat.le_of_ble_eq_true rfl) (Nat.le_of_ble_eq_true rfl) (fun H locs hP hD hS => ?_)
            obtain ⟨x8, ex8⟩ : ∃ zz_, zz_ = (itf (rlG f p0) (rlE f p0 p1.toNatClampNeg)) := ⟨_, rfl⟩
            have hP : va_P D vwCl [(h2, .inl (cI, 165, .inl (a_h2_X7_putAside f as))), (h0, .inr (7, [.ref h1, .long me, .ref h2, .ref h3, .ref h4, .ref h5, .int 0])), (h1, .inl (cI, 165, .inl x8))] H := by rw [ex8]; exact hP
            have hD : va_D A [(h2, .inl (cI, 165, .inl (a_h2_X7_putAside f as))), (h0, .inr (7, [.ref h1, .long me, .ref h2, .ref h3, .ref h4, .ref h5, .int 0])), (h1, .inl (cI, 165, .inl x8))] := by rw [ex8]; exact hD
            refine lv_topi (fun x9 ex9 => ?_)
            have K105 : ∀ (y12 : Int32) (H : Heap) (locs : List Loc) (ls : Array Slot), y12 = (if (r_X7_hasLock (itf (rlG f p0) (rlE f p0 p1.toNatClampNeg))) = 0 then (-1) else (nI (rlE f p0 p1.toNatClampNeg)) : Int32) → va_P D vwCl [(h2, .inl (cI, 165, .inl (a_h2_X7_putAside f as))), (h0, .inr (7, [.ref h1, .long me, .ref h2, .ref h3, .ref h4, .ref h5, .int 0])), (h1, .inl (cI, 165, .inl x8))] H → va_D A [(h2, .inl (cI, 165, .inl (a_h2_X7_putAside f as))), (h0, .inr (7, [.ref h1, .long me, .ref h2, .ref h3, .ref h4, .ref h5, .int 0])), (h1, .inl (cI, 165, .inl x8))] → va_S A s.heap H locs → lv_has ls 5 [(0, .ref h0), (1, .int p0), (2, .int p1), (3, .int (nI (rlE f p0 p1.toNatClampNeg)))] → W p l e ({ frames := 4, cells := 0, slots := 0, locals := 84 } : Room) s m args below meth c H locs 0 0 Q (F0 m 105 ls [.int y12]) := by
              intro y12 H locs ls ey12 hP hD hS hl
              refine lv_istore (lv' := [(4, .int y12), (0, .ref h0), (1, .int p0), (2, .int p1), (3, .int (nI (rlE f p0 p1.toNatClampNeg)))]) hx hb dX7_relockTime_105 hl (by decide) rfl (fun ls hl => ?_)
              refine lv_aload_n hx hb dX7_relockTime_107 rfl (lv_at hl 1 rfl) ?_
              refine call_v (wr := []) (k := 0) (n := 0) (run_V (As := []) (rest := []) ⟨hx, hb, hml, hown, hts⟩ (mPB l D cI cJ cZ cO h0 h1 h2 h3 h4 h5 me 0 x8 (a_h2_X7_putAside f as) f (fun k hk => by subst ex1; subst ex6; subst ex8; subst ex9; subst ey12; exact pa_at f as k hk) H.size) (cwV 0 hts gX7_relockTime_X7_putBack rfl rfl rfl (by decide +kernel) ⟨Nat.le_of_ble_eq_true rfl, Nat.le_of_ble_eq_true rfl⟩) hK hN hP hD [1, 2, 0] (by decide) rfl 7 0 rfl rfl rfl rfl rfl hl.1 (Nat.le_of_ble_eq_true rfl) dX7_relockTime_108 ⟨Nat.le_of_ble_eq_true rfl, Nat.le_of_ble_eq_true rfl⟩) hP hD hS hA [1, 2, 0] [] rfl rfl (by decide) (by decide) (Nat.le_of_ble_eq_true rfl) (Nat.le_of_ble_eq_true rfl) (fun _ H locs hP hD hS => ?_)
              have hP : va_P D vwCl [(h0, .inr (7, [.ref h1, .long me, .ref h2, .ref h3, .ref h4, .ref h5, .int 0])), (h1, .inl (cI, 165, .inl f)), (h2, .inl (cI, 165, .inl (a_h2_X7_putAside f as)))] H := hP
              have hD : va_D A [(h0, .inr (7, [.ref h1, .long me, .ref h2, .ref h3, .ref h4, .ref h5, .int 0])), (h1, .inl (cI, 165, .inl f)), (h2, .inl (cI, 165, .inl (a_h2_X7_putAside f as)))] := hD
              refine lv_iload hx hb dX7_relockTime_111 (lv_at hl 0 rfl) ?_
              exact hret _ _ _ _ _ _ _ _ (by subst ex1; subst ex6; subst ex8; subst ex9; subst ey12; first | with_reducible rfl | (simp only [r_X7_relockTime, v_h0_thrown_X7_relockTime, a_h2_X7_relockTime, if_neg c3, if_neg c5]; done) | rfl) (by subst ex1; subst ex6; subst ex8; subst ex9; subst ey12; first | with_reducible rfl | (simp only [r_X7_relockTime, v_h0_thrown_X7_relockTime, a_h2_X7_relockTime, if_neg c3, if_neg c5]; done) | rfl) hP hD hS (Nat.le_of_ble_eq_true rfl) (Nat.le_of_ble_eq_true rfl) dX7_relockTime_113
            refine lv_if_eq (tgt := 104) hx hb dX7_relockTime_97 (by decide) (fun c11 => ?_) (fun c11 => ?_)
            · refine lv_iconst (v := (-1)) hx hb dX7_relockTime_104 (by decide) ?_
              exact K105 _ _ _ _ (by subst ex1; subst ex6; subst ex8; subst ex9; first | with_reducible rfl | (simp only [if_pos c11]; done) | rfl) (hP.sub [0, 1, 2] rfl) (hD.sub [0, 1, 2] (by decide) rfl) hS (lv_sub hl [0, 1, 2, 3] rfl)
            · refine lv_iload_n hx hb dX7_relockTime_100 rfl (lv_at hl 3 rfl) ?_
              refine lv_goto (tgt := 105) hx hb dX7_relockTime_101 (by decide) ?_
              exact K105 _ _ _ _ (by subst ex1; subst ex6; subst ex8; subst ex9; first | with_reducible rfl | (simp only [if_neg c11]; done) | rfl) (hP.sub [0, 1, 2] rfl) (hD.sub [0, 1, 2] (by decide) rfl) hS (lv_sub hl [0, 1, 2, 3] rfl)
          · have hiN : i < p1.toNatClampNeg := gd_in hpN (by omega) hi c7
            refine lv_aload_n hx hb dX7_relockTime_76 rfl (lv_at hl 0 rfl) ?_
            refine call_i (wr := [(h2, .inl (cI, 165, .inl (a_h2_X7_putAside f as)))]) (k := 0) (n := 0) (run_V (As := []) (rest := []) ⟨hx, hb, hml, hown, hts⟩ (mX7_hasLock l D cI cJ cZ cO h0 h1 h2 h3 h4 h5 me 0 (itf (rlG f p0) i) H.size) (cwV 0 hts gX7_relockTime_X7_hasLock rfl rfl rfl (by decide +kernel) ⟨Nat.le_of_ble_eq_true rfl, Nat.le_of_ble_eq_true rfl⟩) hK hN hP hD [0, 1] (by decide) rfl 7 0 rfl rfl rfl rfl rfl hl.1 (Nat.le_of_ble_eq_true rfl) dX7_relockTime_77 ⟨Nat.le_of_ble_eq_true rfl, Nat.le_of_ble_eq_true rfl⟩) hP hD hS hA [0, 1] [2] rfl rfl (by decide) (by decide) (Nat.le_of_ble_eq_true rfl) (Nat.le_of_ble_eq_true rfl) (fun H locs hP hD hS => ?_)
            have hP : va_P D vwCl [(h2, .inl (cI, 165, .inl (a_h2_X7_putAside f as))), (h0, .inr (7, [.ref h1, .long me, .ref h2, .ref h3, .ref h4, .ref h5, .int 0])), (h1, .inl (cI, 165, .inl (itf (rlG f p0) i)))] H := hP
            have hD : va_D A [(h2, .inl (cI, 165, .inl (a_h2_X7_putAside f as))), (h0, .inr (7, [.ref h1, .long me, .ref h2, .ref h3, .ref h4, .ref h5, .int 0])), (h1, .inl (cI, 165, .inl (itf (rlG f p0) i)))] := hD
            refine lv_topi (fun x13 ex13 => ?_)
            refine lv_if_ne (tgt := 93) hx hb dX7_relockTime_80 (by decide) (fun c14 => ?_) (fun c14 => ?_)
            · have hiN : (rlE f p0 p1.toNatClampNeg) = i := st_hit he hiN (by subst ex1; subst ex6; subst ex13; exact c14)
              subst hiN
              have hP : va_P D vwCl [(h2, .inl (cI, 165, .inl (a_h2_X7_putAside f as))), (h0, .inr (7, [.ref h1, .long me, .ref h2, .ref h3, .ref h4, .ref h5, .int 0])), (h1, .inl (cI, 165, .inl (itf (rlG f p0) (rlE f p0 p1.toNatClampNeg))))] H := hP
              have hD : va_D A [(h2, .inl (cI, 165, .inl (a_h2_X7_putAside f as))), (h0, .inr (7, [.ref h1, .long me, .ref h2, .ref h3, .ref h4, .ref h5, .int 0])), (h1, .inl (cI, 165, .inl (itf (rlG f p0) (rlE f p0 p1.toNatClampNeg))))] := hD
              have hl : lv_has ls 5 [(0, .ref h0), (1, .int p0), (2, .int p1), (3, .int (nI (rlE f p0 p1.toNatClampNeg)))] := hl
              refine lv_aload_n hx hb dX7_relockTime_93 rfl (lv_at hl 0 rfl) ?_
              refine call_i (wr := [(h2, .inl (cI, 165, .inl (a_h2_X7_putAside f as)))]) (k := 0) (n := 0) (run_V (As := []) (rest := []) ⟨hx, hb, hml, hown, hts⟩ (mX7_hasLock l D cI cJ cZ cO h0 h1 h2 h3 h4 h5 me 0 (itf (rlG f p0) (rlE f p0 p1.toNatClampNeg)) H.size) (cwV 0 hts gX7_relockTime_X7_hasLock rfl rfl rfl (by decide +kernel) ⟨Nat.le_of_ble_eq_true rfl, Nat.le_of_ble_eq_true rfl⟩) hK hN hP hD [1, 2] (by decide) rfl 7 0 rfl rfl rfl rfl rfl hl.1 (Nat.le_of_ble_eq_true rfl) dX7_relockTime_94 ⟨Nat.le_of_ble_eq_true rfl, Nat.le_of_ble_eq_true rfl⟩) hP hD hS hA [1, 2] [0] rfl rfl (by decide) (by decide) (Nat.le_of_ble_eq_true rfl) (Nat.le_of_ble_eq_true rfl) (fun H locs hP hD hS => ?_)
              obtain ⟨x15, ex15⟩ : ∃ zz_, zz_ = (itf (rlG f p0) (rlE f p0 p1.toNatClampNeg)) := ⟨_, rfl⟩
              have hP : va_P D vwCl [(h2, .inl (cI, 165, .inl (a_h2_X7_putAside f as))), (h0, .inr (7, [.ref h1, .long me, .ref h2, .ref h3, .ref h4, .ref h5, .int 0])), (h1, .inl (cI, 165, .inl x15))] H := by rw [ex15]; exact hP
              have hD : va_D A [(h2, .inl (cI, 165, .inl (a_h2_X7_putAside f as))), (h0, .inr (7, [.ref h1, .long me, .ref h2, .ref h3, .ref h4, .ref h5, .int 0])), (h1, .inl (cI, 165, .inl x15))] := by rw [ex15]; exact hD
              refine lv_topi (fun x16 ex16 => ?_)
              have K105 : ∀ (y19 : Int32) (H : Heap) (locs : List Loc) (ls : Array Slot), y19 = (if (r_X7_hasLock (itf (rlG f p0) (rlE f p0 p1.toNatClampNeg))) = 0 then (-1) else (nI (rlE f p0 p1.toNatClampNeg)) : Int32) → va_P D vwCl [(h2, .inl (cI, 165, .inl (a_h2_X7_putAside f as))), (h0, .inr (7, [.ref h1, .long me, .ref h2, .ref h3, .ref h4, .ref h5, .int 0])), (h1, .inl (cI, 165, .inl x15))] H → va_D A [(h2, .inl (cI, 165, .inl (a_h2_X7_putAside f as))), (h0, .inr (7, [.ref h1, .long me, .ref h2, .ref h3, .ref h4, .ref h5, .int 0])), (h1, .inl (cI, 165, .inl x15))] → va_S A s.heap H locs → lv_has ls 5 [(0, .ref h0), (1, .int p0), (2, .int p1), (3, .int (nI (rlE f p0 p1.toNatClampNeg)))] → W p l e ({ frames := 4, cells := 0, slots := 0, locals := 84 } : Room) s m args below meth c H locs 0 0 Q (F0 m 105 ls [.int y19]) := by
                intro y19 H locs ls ey19 hP hD hS hl
                refine lv_istore (lv' := [(4, .int y19), (0, .ref h0), (1, .int p0), (2, .int p1), (3, .int (nI (rlE f p0 p1.toNatClampNeg)))]) hx hb dX7_relockTime_105 hl (by decide) rfl (fun ls hl => ?_)
                refine lv_aload_n hx hb dX7_relockTime_107 rfl (lv_at hl 1 rfl) ?_
                refine call_v (wr := []) (k := 0) (n := 0) (run_V (As := []) (rest := []) ⟨hx, hb, hml, hown, hts⟩ (mPB l D cI cJ cZ cO h0 h1 h2 h3 h4 h5 me 0 x15 (a_h2_X7_putAside f as) f (fun k hk => by subst ex1; subst ex6; subst ex13; subst ex15; subst ex16; subst ey19; exact pa_at f as k hk) H.size) (cwV 0 hts gX7_relockTime_X7_putBack rfl rfl rfl (by decide +kernel) ⟨Nat.le_of_ble_eq_true rfl, Nat.le_of_ble_eq_true rfl⟩) hK hN hP hD [1, 2, 0] (by decide) rfl 7 0 rfl rfl rfl rfl rfl hl.1 (Nat.le_of_ble_eq_true rfl) dX7_relockTime_108 ⟨Nat.le_of_ble_eq_true rfl, Nat.le_of_ble_eq_true rfl⟩) hP hD hS hA [1, 2, 0] [] rfl rfl (by decide) (by decide) (Nat.le_of_ble_eq_true rfl) (Nat.le_of_ble_eq_true rfl) (fun _ H locs hP hD hS => ?_)
                have hP : va_P D vwCl [(h0, .inr (7, [.ref h1, .long me, .ref h2, .ref h3, .ref h4, .ref h5, .int 0])), (h1, .inl (cI, 165, .inl f)), (h2, .inl (cI, 165, .inl (a_h2_X7_putAside f as)))] H := hP
                have hD : va_D A [(h0, .inr (7, [.ref h1, .long me, .ref h2, .ref h3, .ref h4, .ref h5, .int 0])), (h1, .inl (cI, 165, .inl f)), (h2, .inl (cI, 165, .inl (a_h2_X7_putAside f as)))] := hD
                refine lv_iload hx hb dX7_relockTime_111 (lv_at hl 0 rfl) ?_
                exact hret _ _ _ _ _ _ _ _ (by subst ex1; subst ex6; subst ex13; subst ex15; subst ex16; subst ey19; first | with_reducible rfl | (simp only [r_X7_relockTime, v_h0_thrown_X7_relockTime, a_h2_X7_relockTime, if_neg c3, if_neg c5]; done) | rfl) (by subst ex1; subst ex6; subst ex13; subst ex15; subst ex16; subst ey19; first | with_reducible rfl | (simp only [r_X7_relockTime, v_h0_thrown_X7_relockTime, a_h2_X7_relockTime, if_neg c3, if_neg c5]; done) | rfl) hP hD hS (Nat.le_of_ble_eq_true rfl) (Nat.le_of_ble_eq_true rfl) dX7_relockTime_113
              refine lv_if_eq (tgt := 104) hx hb dX7_relockTime_97 (by decide) (fun c18 => ?_) (fun c18 => ?_)
              · refine lv_iconst (v := (-1)) hx hb dX7_relockTime_104 (by decide) ?_
                exact K105 _ _ _ _ (by subst ex1; subst ex6; subst ex13; subst ex15; subst ex16; first | with_reducible rfl | (simp only [if_pos c18]; done) | rfl) (hP.sub [0, 1, 2] rfl) (hD.sub [0, 1, 2] (by decide) rfl) hS (lv_sub hl [0, 1, 2, 3] rfl)
              · refine lv_iload_n hx hb dX7_relockTime_100 rfl (lv_at hl 3 rfl) ?_
                refine lv_goto (tgt := 105) hx hb dX7_relockTime_101 (by decide) ?_
                exact K105 _ _ _ _ (by subst ex1; subst ex6; subst ex13; subst ex15; subst ex16; first | with_reducible rfl | (simp only [if_neg c18]; done) | rfl) (hP.sub [0, 1, 2] rfl) (hD.sub [0, 1, 2] (by decide) rfl) hS (lv_sub hl [0, 1, 2, 3] rfl)
            · have hnp : ¬ ¬ r_X7_hasLock (itf (rlG f p0) i) = 0 := fun h => h (by subst ex1; subst ex6; subst ex13; exact c14)
              refine lv_aload_n hx hb dX7_relockTime_83 rfl (lv_at hl 0 rfl) ?_
              refine call_v (wr := [(h2, .inl (cI, 165, .inl (a_h2_X7_putAside f as)))]) (k := 0) (n := 0) (run_V (As := []) (rest := []) ⟨hx, hb, hml, hown, hts⟩ (mK7 l D cI cJ cZ cO h0 h1 h2 h3 h4 h5 me 0 (itf (rlG f p0) i) (B + i) (ok_it (ok_rlG hO) i (by omega)) (by omega) H.size) (cwV 0 hts gX7_relockTime_X7_tick rfl rfl rfl (by decide +kernel) ⟨Nat.le_of_ble_eq_true rfl, Nat.le_of_ble_eq_true rfl⟩) hK hN hP hD [1, 2] (by decide) rfl 7 0 rfl rfl rfl rfl rfl hl.1 (Nat.le_of_ble_eq_true rfl) dX7_relockTime_84 ⟨Nat.le_of_ble_eq_true rfl, Nat.le_of_ble_eq_true rfl⟩) hP hD hS hA [1, 2] [0] rfl rfl (by decide) (by decide) (Nat.le_of_ble_eq_true rfl) (Nat.le_of_ble_eq_true rfl) (fun _ H locs hP hD hS => ?_)
              have hP : va_P D vwCl [(h2, .inl (cI, 165, .inl (a_h2_X7_putAside f as))), (h0, .inr (7, [.ref h1, .long me, .ref h2, .ref h3, .ref h4, .ref h5, .int 0])), (h1, .inl (cI, 165, .inl (tickN (itf (rlG f p0) i))))] H := hP
              have hD : va_D A [(h2, .inl (cI, 165, .inl (a_h2_X7_putAside f as))), (h0, .inr (7, [.ref h1, .long me, .ref h2, .ref h3, .ref h4, .ref h5, .int 0])), (h1, .inl (cI, 165, .inl (tickN (itf (rlG f p0) i))))] := hD
              refine lv_iinc (v := (nI (i + 1))) (lv' := [(3, .int (nI (i + 1))), (0, .ref h0), (1, .int p0), (2, .int p1)]) hx hb dX7_relockTime_87 hl (k := 3) rfl (nI_1 i) (by decide) rfl (fun ls hl => ?_)
              refine lv_goto (tgt := 71) hx hb dX7_relockTime_90 (by decide) ?_
              have eW : ([(h0, .inr (7, [.ref h1, .long me, .ref h2, .ref h3, .ref h4, .ref h5, .int 0])), (h1, .inl (cI, 165, .inl (tickN (itf (rlG f p0) i)))), (h2, .inl (cI, 165, .inl (a_h2_X7_putAside f as)))] : va_W) = [(h0, .inr (7, [.ref h1, .long me, .ref h2, .ref h3, .ref h4, .ref h5, .int 0])), (h1, .inl (cI, 165, .inl (itf (rlG f p0) (i + 1)))), (h2, .inl (cI, 165, .inl (a_h2_X7_putAside f as)))] := (by subst ex13; rfl)
              have eL : ([(0, .ref h0), (1, .int p0), (2, .int p1), (3, .int (nI (i + 1)))] : List (Nat × Value)) = [(0, .ref h0), (1, .int p0), (2, .int p1), (3, .int (nI (i + 1)))] := (by subst ex13; rfl)
              exact ih (i + 1) H locs ls (by omega) (by omega) (st_next he hiN hnp) (P_eq eW (hP.sub (ws' := [(h0, .inr (7, [.ref h1, .long me, .ref h2, .ref h3, .ref h4, .ref h5, .int 0])), (h1, .inl (cI, 165, .inl (tickN (itf (rlG f p0) i)))), (h2, .inl (cI, 165, .inl (a_h2_X7_putAside f as)))]) [1, 2, 0] rfl)) (D_eq eW (hD.sub (ws' := [(h0, .inr (7, [.ref h1, .long me, .ref h2, .ref h3, .ref h4, .ref h5, .int 0])), (h1, .inl (cI, 165, .inl (tickN (itf (rlG f p0) i)))), (h2, .inl (cI, 165, .inl (a_h2_X7_putAside f as)))]) [1, 2, 0] (by decide) rfl)) hS (L_eq eL (lv_sub (l' := [(0, .ref h0), (1, .int p0), (2, .int p1), (3, .int (nI (i + 1)))]) hl [1, 2, 3, 0] rfl))
      have eW : ([(h0, .inr (7, [.ref h1, .long me, .ref h2, .ref h3, .ref h4, .ref h5, .int 0])), (h1, .inl (cI, 165, .inl (upd x6 7 0))), (h2, .inl (cI, 165, .inl (a_h2_X7_putAside f as)))] : va_W) = [(h0, .inr (7, [.ref h1, .long me, .ref h2, .ref h3, .ref h4, .ref h5, .int 0])), (h1, .inl (cI, 165, .inl (itf (rlG f p0) 0))), (h2, .inl (cI, 165, .inl (a_h2_X7_putAside f as)))] := by subst ex1; subst ex6; rfl
      have eL : ([(0, .ref h0), (1, .int p0), (2, .int p1), (3, .int 0)] : List (Nat × Value)) = [(0, .ref h0), (1, .int p0), (2, .int p1), (3, .int (nI 0))] := by subst ex1; subst ex6; rfl
      exact L71 (p1.toNatClampNeg + 1) 0 H locs ls (by omega) (by omega) rfl (P_eq eW (hP.sub (ws' := [(h0, .inr (7, [.ref h1, .long me, .ref h2, .ref h3, .ref h4, .ref h5, .int 0])), (h1, .inl (cI, 165, .inl (upd x6 7 0))), (h2, .inl (cI, 165, .inl (a_h2_X7_putAside f as)))]) [0, 1, 2] rfl)) (D_eq eW (hD.sub (ws' := [(h0, .inr (7, [.ref h1, .long me, .ref h2, .ref h3, .ref h4, .ref h5, .int 0])), (h1, .inl (cI, 165, .inl (upd x6 7 0))), (h2, .inl (cI, 165, .inl (a_h2_X7_putAside f as)))]) [0, 1, 2] (by decide) rfl)) hS (L_eq eL (lv_sub (l' := [(0, .ref h0), (1, .int p0), (2, .int p1), (3, .int 0)]) hl [1, 2, 3, 0] rfl))

def v_h0_thrown_X7_save (p0 : Int32) : Int32 := (if (r_X7_in p0 0 1) = 0 then 1 else 0 : Int32)
def a_h3_X7_save (f : Nat → Int32) (sl : Nat → Int32) (p0 : Int32) : Nat → Int32 := (if (r_X7_in p0 0 1) = 0 then sl else (cpS sl f (165 * p0.toNatClampNeg) 165) : Nat → Int32)
def a_h4_X7_save (me : Int64) (se : Nat → Int64) (p0 : Int32) : Nat → Int64 := (if (r_X7_in p0 0 1) = 0 then se else (vp_updL se p0.toNatClampNeg me) : Nat → Int64)
def a_h5_X7_save (sv : Nat → Int32) (p0 : Int32) : Nat → Int32 := (if (r_X7_in p0 0 1) = 0 then sv else (upd sv p0.toNatClampNeg 1) : Nat → Int32)
set_option maxHeartbeats 4000000 in
set_option maxRecDepth 100000 in
theorem mX7_save (l : Launch) (D : va_G) (cI cJ cZ cO : ClassId) (h0 : Nat) (h1 : Nat) (h2 : Nat) (h3 : Nat) (h4 : Nat) (h5 : Nat) (me : Int64) (tw : Int32) (f : Nat → Int32) (sl : Nat → Int32) (se : Nat → Int64) (sv : Nat → Int32) (p0 : Int32) : MV l yX7_save wsX7_save ({ frames := 1, cells := 0, slots := 0, locals := 22 } : Room) D (tysK cI cJ cZ cO) [.ref h0, .int p0] [(h0, .inr (7, [.ref h1, .long me, .ref h2, .ref h3, .ref h4, .ref h5, .int tw])), (h1, .inl (cI, 165, .inl f)), (h3, .inl (cI, 330, .inl sl)), (h4, .inl (cJ, 2, .inr (.inl se))), (h5, .inl (cZ, 2, .inl sv))] (fun (_ : Unit) => [(h0, .inr (7, [.ref h1, .long me, .ref h2, .ref h3, .ref h4, .ref h5, .int (v_h0_thrown_X7_save p0)])), (h1, .inl (cI, 165, .inl f)), (h3, .inl (cI, 330, .inl (a_h3_X7_save f sl p0))), (h4, .inl (cJ, 2, .inr (.inl (a_h4_X7_save me se p0)))), (h5, .inl (cZ, 2, .inl (a_h5_X7_save sv p0)))]) := by
  refine MV.of (cc := cX7_save) (maxL := 3) (by decide) rfl (Nat.le_of_ble_eq_true rfl) ?_
  intro p e s m args below meth c A Q ls H locs B hin hS hP hD hl hret
  obtain ⟨hx, hb, hml, hown, hts, hK, hN, hA, hlocks⟩ := B
  have hi7 : ∀ w ∈ u_ws RX7 TX7 7, w ∈ wsX7_save := by decide +kernel
  have hl : lv_has ls 3 [(0, .ref h0), (1, .int p0)] := hl
  refine lv_aload_n hx hb dX7_save_0 rfl (lv_at hl 0 rfl) ?_
  refine lv_iload_n hx hb dX7_save_1 rfl (lv_at hl 1 rfl) ?_
  refine lv_iconst (v := 0) hx hb dX7_save_2 (by decide) ?_
  refine lv_iconst (v := 1) hx hb dX7_save_3 (by decide) ?_
  refine call_i (wr := [(h0, .inr (7, [.ref h1, .long me, .ref h2, .ref h3, .ref h4, .ref h5, .int tw])), (h1, .inl (cI, 165, .inl f)), (h3, .inl (cI, 330, .inl sl)), (h4, .inl (cJ, 2, .inr (.inl se))), (h5, .inl (cZ, 2, .inl sv))]) (k := 0) (n := 0) (run_S (As := [.int p0, .int 0, .int 1]) (rest := [.ref h0]) ⟨hx, hb, hml, hown, hts⟩ (mX7_in l D cI cJ cZ cO p0 0 1 H.size) (va_cwS 3 hts gX7_save_X7_in rfl rfl rfl (by decide +kernel) ⟨Nat.le_of_ble_eq_true rfl, Nat.le_of_ble_eq_true rfl⟩) hK hN hP hD [] (by decide) rfl rfl rfl hl.1 (Nat.le_of_ble_eq_true rfl) dX7_save_4 ⟨Nat.le_of_ble_eq_true rfl, Nat.le_of_ble_eq_true rfl⟩) hP hD hS hA [] [0, 1, 2, 3, 4] rfl rfl (by decide) (by decide) (Nat.le_of_ble_eq_true rfl) (Nat.le_of_ble_eq_true rfl) (fun H locs hP hD hS => ?_)
  have hP : va_P D vwCl [(h0, .inr (7, [.ref h1, .long me, .ref h2, .ref h3, .ref h4, .ref h5, .int tw])), (h1, .inl (cI, 165, .inl f)), (h3, .inl (cI, 330, .inl sl)), (h4, .inl (cJ, 2, .inr (.inl se))), (h5, .inl (cZ, 2, .inl sv))] H := hP
  have hD : va_D A [(h0, .inr (7, [.ref h1, .long me, .ref h2, .ref h3, .ref h4, .ref h5, .int tw])), (h1, .inl (cI, 165, .inl f)), (h3, .inl (cI, 330, .inl sl)), (h4, .inl (cJ, 2, .inr (.inl se))), (h5, .inl (cZ, 2, .inl sv))] := hD
  refine lv_if_eq (tgt := 14) hx hb dX7_save_7 (by decide) (fun c2 => ?_) (fun c2 => ?_)
  · refine lv_iconst (v := 1) hx hb dX7_save_14 (by decide) ?_
    refine va_put (D := D) (ci := 7) (v := .int 1) (ty := .int) (C := RX7) (T := TX7) (N := 7) hx hb hts hi7 tyX7 tyX7_ok nmX7 hown hK hP hD hS 0 rfl rfl 6 (by decide) (hts (.fieldLink RX7 30 "GridInverterModel" "thrown" "I") (by decide +kernel)) (fun _ h9 => h9) rfl (by decide +kernel) rfl rfl (Nat.le_of_ble_eq_true rfl) dX7_save_15 (fun H locs hP hD hS => ?_)
    have hP : va_P D vwCl [(h0, .inr (7, [.ref h1, .long me, .ref h2, .ref h3, .ref h4, .ref h5, .int 1])), (h1, .inl (cI, 165, .inl f)), (h3, .inl (cI, 330, .inl sl)), (h4, .inl (cJ, 2, .inr (.inl se))), (h5, .inl (cZ, 2, .inl sv))] H := hP
    have hD : va_D A [(h0, .inr (7, [.ref h1, .long me, .ref h2, .ref h3, .ref h4, .ref h5, .int 1])), (h1, .inl (cI, 165, .inl f)), (h3, .inl (cI, 330, .inl sl)), (h4, .inl (cJ, 2, .inr (.inl se))), (h5, .inl (cZ, 2, .inl sv))] := hD
    refine lv_aload_n hx hb dX7_save_18 rfl (lv_at hl 0 rfl) ?_
    refine va_get (D := D) (ci := 7) (v := .int 1) (C := RX7) (T := TX7) (N := 7) hx hb hts hi7 hown hK hP 0 rfl rfl 6 (by decide) (hts (.fieldLink RX7 30 "GridInverterModel" "thrown" "I") (by decide +kernel)) (fun _ h9 => h9) rfl dX7_save_19 ?_
    refine lv_if_ne (tgt := 75) hx hb dX7_save_22 (by decide) (fun _ => ?_) (fun h => absurd h (by decide))
    exact hret () _ _ _ _ _ _ _ (by first | with_reducible rfl | (simp only [v_h0_thrown_X7_save, a_h3_X7_save, a_h4_X7_save, a_h5_X7_save, if_pos c2]; done) | rfl) hP hD hS (Nat.le_of_ble_eq_true rfl) (Nat.le_of_ble_eq_true rfl) dX7_save_75
  · refine lv_iconst (v := 0) hx hb dX7_save_10 (by decide) ?_
    refine lv_goto (tgt := 15) hx hb dX7_save_11 (by decide) ?_
    refine va_put (D := D) (ci := 7) (v := .int 0) (ty := .int) (C := RX7) (T := TX7) (N := 7) hx hb hts hi7 tyX7 tyX7_ok nmX7 hown hK hP hD hS 0 rfl rfl 6 (by decide) (hts (.fieldLink RX7 30 "GridInverterModel" "thrown" "I") (by decide +kernel)) (fun _ h9 => h9) rfl (by decide +kernel) rfl rfl (Nat.le_of_ble_eq_true rfl) dX7_save_15 (fun H locs hP hD hS => ?_)
    have hP : va_P D vwCl [(h0, .inr (7, [.ref h1, .long me, .ref h2, .ref h3, .ref h4, .ref h5, .int 0])), (h1, .inl (cI, 165, .inl f)), (h3, .inl (cI, 330, .inl sl)), (h4, .inl (cJ, 2, .inr (.inl se))), (h5, .inl (cZ, 2, .inl sv))] H := hP
    have hD : va_D A [(h0, .inr (7, [.ref h1, .long me, .ref h2, .ref h3, .ref h4, .ref h5, .int 0])), (h1, .inl (cI, 165, .inl f)), (h3, .inl (cI, 330, .inl sl)), (h4, .inl (cJ, 2, .inr (.inl se))), (h5, .inl (cZ, 2, .inl sv))] := hD
    refine lv_aload_n hx hb dX7_save_18 rfl (lv_at hl 0 rfl) ?_
    refine va_get (D := D) (ci := 7) (v := .int 0) (C := RX7) (T := TX7) (N := 7) hx hb hts hi7 hown hK hP 0 rfl rfl 6 (by decide) (hts (.fieldLink RX7 30 "GridInverterModel" "thrown" "I") (by decide +kernel)) (fun _ h9 => h9) rfl dX7_save_19 ?_
    refine lv_if_ne (tgt := 75) hx hb dX7_save_22 (by decide) (fun h => absurd rfl h) (fun _ => ?_)
    refine lv_iconst (v := 0) hx hb dX7_save_25 (by decide) ?_
    refine lv_istore_n (lv' := [(2, .int 0), (0, .ref h0), (1, .int p0)]) hx hb dX7_save_26 rfl hl (by decide) rfl (fun ls hl => ?_)
    obtain ⟨hpN, hp1, hp2⟩ := in_n (lo := 0) (hi := 1) (by decide) (by decide) c2
    have L27 : ∀ (n i : Nat) (H : Heap) (locs : List Loc) (ls : Array Slot), i ≤ 165 → 165 + 1 ≤ i + n → va_P D vwCl [(h0, .inr (7, [.ref h1, .long me, .ref h2, .ref h3, .ref h4, .ref h5, .int 0])), (h1, .inl (cI, 165, .inl f)), (h3, .inl (cI, 330, .inl (cpS sl f (165 * p0.toNatClampNeg) i))), (h4, .inl (cJ, 2, .inr (.inl se))), (h5, .inl (cZ, 2, .inl sv))] H → va_D A [(h0, .inr (7, [.ref h1, .long me, .ref h2, .ref h3, .ref h4, .ref h5, .int 0])), (h1, .inl (cI, 165, .inl f)), (h3, .inl (cI, 330, .inl (cpS sl f (165 * p0.toNatClampNeg) i))), (h4, .inl (cJ, 2, .inr (.inl se))), (h5, .inl (cZ, 2, .inl sv))] → va_S A s.heap H locs → lv_has ls 3 [(0, .ref h0), (1, .int p0), (2, .int (nI i))] → W p l e ({ frames := 1, cells := 0, slots := 0, locals := 22 } : Room) s m args below meth c H locs 0 0 Q (F0 m 27 ls []) := by
      intro n
      induction n with
      | zero => intro i H locs ls hi hin; exact absurd hin (by omega)
      | succ n ih =>
        intro i H locs ls hi hin hP hD hS hl
        refine lv_iload_n hx hb dX7_save_27 rfl (lv_at hl 2 rfl) ?_
        refine lv_sipush (v := 165) hx hb dX7_save_28 (by decide) ?_
        refine lv_icmp_ge (tgt := 58) hx hb dX7_save_31 (by decide) (fun c3 => ?_) (fun c3 => ?_)
        · have hiN : 165 = i := Nat.le_antisymm ((gd_ex (N := 165) rfl (Nat.le_of_ble_eq_true rfl) hi c3)) hi
          subst hiN
          have hP : va_P D vwCl [(h0, .inr (7, [.ref h1, .long me, .ref h2, .ref h3, .ref h4, .ref h5, .int 0])), (h1, .inl (cI, 165, .inl f)), (h3, .inl (cI, 330, .inl (cpS sl f (165 * p0.toNatClampNeg) 165))), (h4, .inl (cJ, 2, .inr (.inl se))), (h5, .inl (cZ, 2, .inl sv))] H := hP
          have hD : va_D A [(h0, .inr (7, [.ref h1, .long me, .ref h2, .ref h3, .ref h4, .ref h5, .int 0])), (h1, .inl (cI, 165, .inl f)), (h3, .inl (cI, 330, .inl (cpS sl f (165 * p0.toNatClampNeg) 165))), (h4, .inl (cJ, 2, .inr (.inl se))), (h5, .inl (cZ, 2, .inl sv))] := hD
          have hl : lv_has ls 3 [(0, .ref h0), (1, .int p0), (2, .int (nI 165))] := hl
          refine lv_aload_n hx hb dX7_save_58 rfl (lv_at hl 0 rfl) ?_
          refine va_get (D := D) (ci := 7) (v := .ref h4) (C := RX7) (T := TX7) (N := 7) hx hb hts hi7 hown hK hP 0 rfl rfl 4 (by decide) (hts (.fieldLink RX7 19 "GridInverterModel" "slotEnergy" "[J") (by decide +kernel)) (fun _ h9 => h9) rfl dX7_save_59 ?_
          refine lv_iload_n hx hb dX7_save_62 rfl (lv_at hl 1 rfl) ?_
          refine lv_aload_n hx hb dX7_save_63 rfl (lv_at hl 0 rfl) ?_
          refine va_get (D := D) (ci := 7) (v := .long me) (C := RX7) (T := TX7) (N := 7) hx hb hts hi7 hown hK hP 0 rfl rfl 1 (by decide) (hts (.fieldLink RX7 91 "GridInverterModel" "energy" "J") (by decide +kernel)) (fun _ h9 => h9) rfl dX7_save_64 ?_
          refine r_last hx hb hK hP hD hS 3 1 rfl rfl p0.toNatClampNeg hpN (by omega) (Nat.le_of_ble_eq_true rfl) dX7_save_67 (fun H locs hP hD hS => ?_)
          obtain ⟨x4, ex4⟩ : ∃ zz_, zz_ = (cpS sl f (165 * p0.toNatClampNeg) 165) := ⟨_, rfl⟩
          obtain ⟨x5, ex5⟩ : ∃ zz_, zz_ = (vp_updL se p0.toNatClampNeg me) := ⟨_, rfl⟩
          have hP : va_P D vwCl [(h0, .inr (7, [.ref h1, .long me, .ref h2, .ref h3, .ref h4, .ref h5, .int 0])), (h1, .inl (cI, 165, .inl f)), (h3, .inl (cI, 330, .inl x4)), (h4, .inl (cJ, 2, .inr (.inl x5))), (h5, .inl (cZ, 2, .inl sv))] H := by rw [ex4, ex5]; exact hP
          have hD : va_D A [(h0, .inr (7, [.ref h1, .long me, .ref h2, .ref h3, .ref h4, .ref h5, .int 0])), (h1, .inl (cI, 165, .inl f)), (h3, .inl (cI, 330, .inl x4)), (h4, .inl (cJ, 2, .inr (.inl x5))), (h5, .inl (cZ, 2, .inl sv))] := by rw [ex4, ex5]; exact hD
          refine lv_aload_n hx hb dX7_save_68 rfl (lv_at hl 0 rfl) ?_
          refine va_get (D := D) (ci := 7) (v := .ref h5) (C := RX7) (T := TX7) (N := 7) hx hb hts hi7 hown hK hP 0 rfl rfl 5 (by decide) (hts (.fieldLink RX7 23 "GridInverterModel" "isSaved" "[Z") (by decide +kernel)) (fun _ h9 => h9) rfl dX7_save_69 ?_
          refine lv_iload_n hx hb dX7_save_72 rfl (lv_at hl 1 rfl) ?_
          refine lv_iconst (v := 1) hx hb dX7_save_73 (by decide) ?_
          refine r_zast hx hb hK hP hD hS 4 2 rfl rfl p0.toNatClampNeg hpN (by omega) (Nat.le_of_ble_eq_true rfl) rfl dX7_save_74 (fun H locs hP hD hS => ?_)
          obtain ⟨x6, ex6⟩ : ∃ zz_, zz_ = (upd sv p0.toNatClampNeg 1) := ⟨_, rfl⟩
          have hP : va_P D vwCl [(h0, .inr (7, [.ref h1, .long me, .ref h2, .ref h3, .ref h4, .ref h5, .int 0])), (h1, .inl (cI, 165, .inl f)), (h3, .inl (cI, 330, .inl x4)), (h4, .inl (cJ, 2, .inr (.inl x5))), (h5, .inl (cZ, 2, .inl x6))] H := by rw [ex6]; exact hP
          have hD : va_D A [(h0, .inr (7, [.ref h1, .long me, .ref h2, .ref h3, .ref h4, .ref h5, .int 0])), (h1, .inl (cI, 165, .inl f)), (h3, .inl (cI, 330, .inl x4)), (h4, .inl (cJ, 2, .inr (.inl x5))), (h5, .inl (cZ, 2, .inl x6))] := by rw [ex6]; exact hD
          exact hret () _ _ _ _ _ _ _ (by subst ex4; subst ex5; subst ex6; first | with_reducible rfl | (simp only [v_h0_thrown_X7_save, a_h3_X7_save, a_h4_X7_save, a_h5_X7_save, if_neg c2]; done) | rfl) hP hD hS (Nat.le_of_ble_eq_true rfl) (Nat.le_of_ble_eq_true rfl) dX7_save_75
        · have hiN : i < 165 := (gd_in (N := 165) rfl (Nat.le_of_ble_eq_true rfl) hi c3)
          refine lv_aload_n hx hb dX7_save_34 rfl (lv_at hl 0 rfl) ?_
          refine va_get (D := D) (ci := 7) (v := .ref h3) (C := RX7) (T := TX7) (N := 7) hx hb hts hi7 hown hK hP 0 rfl rfl 3 (by decide) (hts (.fieldLink RX7 16 "GridInverterModel" "slots" "[I") (by decide +kernel)) (fun _ h9 => h9) rfl dX7_save_35 ?_
          refine lv_sipush (v := 165) hx hb dX7_save_38 (by decide) ?_
          refine lv_iload_n hx hb dX7_save_41 rfl (lv_at hl 1 rfl) ?_
          refine lv_imul hx hb dX7_save_42 ?_
          refine lv_iload_n hx hb dX7_save_43 rfl (lv_at hl 2 rfl) ?_
          refine lv_iadd hx hb dX7_save_44 ?_
          refine lv_aload_n hx hb dX7_save_45 rfl (lv_at hl 0 rfl) ?_
          refine va_get (D := D) (ci := 7) (v := .ref h1) (C := RX7) (T := TX7) (N := 7) hx hb hts hi7 hown hK hP 0 rfl rfl 0 (by decide) (hts (.fieldLink RX7 7 "GridInverterModel" "at" "[I") (by decide +kernel)) (fun _ h9 => h9) rfl dX7_save_46 ?_
          refine lv_iload_n hx hb dX7_save_49 rfl (lv_at hl 2 rfl) ?_
          refine r_ald hx hb hK hP 1 0 rfl rfl i rfl (by omega) (Nat.le_of_ble_eq_true rfl) (v := (f i)) rfl dX7_save_50 ?_
          refine r_ast hx hb hK hP hD hS 2 0 rfl rfl (165 * p0.toNatClampNeg + i) (by exact sl_ix hpN i) (by omega) (Nat.le_of_ble_eq_true rfl) dX7_save_51 (fun H locs hP hD hS => ?_)
          obtain ⟨x7, ex7⟩ : ∃ zz_, zz_ = (upd (cpS sl f (165 * p0.toNatClampNeg) i) (165 * p0.toNatClampNeg + i) (f i)) := ⟨_, rfl⟩
          have hP : va_P D vwCl [(h0, .inr (7, [.ref h1, .long me, .ref h2, .ref h3, .ref h4, .ref h5, .int 0])), (h1, .inl (cI, 165, .inl f)), (h3, .inl (cI, 330, .inl x7)), (h4, .inl (cJ, 2, .inr (.inl se))), (h5, .inl (cZ, 2, .inl sv))] H := by rw [ex7]; exact hP
          have hD : va_D A [(h0, .inr (7, [.ref h1, .long me, .ref h2, .ref h3, .ref h4, .ref h5, .int 0])), (h1, .inl (cI, 165, .inl f)), (h3, .inl (cI, 330, .inl x7)), (h4, .inl (cJ, 2, .inr (.inl se))), (h5, .inl (cZ, 2, .inl sv))] := by rw [ex7]; exact hD
          refine lv_iinc (v := (nI (i + 1))) (lv' := [(2, .int (nI (i + 1))), (0, .ref h0), (1, .int p0)]) hx hb dX7_save_52 hl (k := 2) rfl (nI_1 i) (by decide) rfl (fun ls hl => ?_)
          refine lv_goto (tgt := 27) hx hb dX7_save_55 (by decide) ?_
          have eW : ([(h0, .inr (7, [.ref h1, .long me, .ref h2, .ref h3, .ref h4, .ref h5, .int 0])), (h1, .inl (cI, 165, .inl f)), (h3, .inl (cI, 330, .inl x7)), (h4, .inl (cJ, 2, .inr (.inl se))), (h5, .inl (cZ, 2, .inl sv))] : va_W) = [(h0, .inr (7, [.ref h1, .long me, .ref h2, .ref h3, .ref h4, .ref h5, .int 0])), (h1, .inl (cI, 165, .inl f)), (h3, .inl (cI, 330, .inl (cpS sl f (165 * p0.toNatClampNeg) (i + 1)))), (h4, .inl (cJ, 2, .inr (.inl se))), (h5, .inl (cZ, 2, .inl sv))] := (by subst ex7; rfl)
          have eL : ([(0, .ref h0), (1, .int p0), (2, .int (nI (i + 1)))] : List (Nat × Value)) = [(0, .ref h0), (1, .int p0), (2, .int (nI (i + 1)))] := (by subst ex7; rfl)
          exact ih (i + 1) H locs ls (by omega) (by omega) (P_eq eW (hP.sub (ws' := [(h0, .inr (7, [.ref h1, .long me, .ref h2, .ref h3, .ref h4, .ref h5, .int 0])), (h1, .inl (cI, 165, .inl f)), (h3, .inl (cI, 330, .inl x7)), (h4, .inl (cJ, 2, .inr (.inl se))), (h5, .inl (cZ, 2, .inl sv))]) [0, 1, 2, 3, 4] rfl)) (D_eq eW (hD.sub (ws' := [(h0, .inr (7, [.ref h1, .long me, .ref h2, .ref h3, .ref h4, .ref h5, .int 0])), (h1, .inl (cI, 165, .inl f)), (h3, .inl (cI, 330, .inl x7)), (h4, .inl (cJ, 2, .inr (.inl se))), (h5, .inl (cZ, 2, .inl sv))]) [0, 1, 2, 3, 4] (by decide) rfl)) hS (L_eq eL (lv_sub (l' := [(0, .ref h0), (1, .int p0), (2, .int (nI (i + 1)))]) hl [1, 2, 0] rfl))
    have eW : ([(h0, .inr (7, [.ref h1, .long me, .ref h2, .ref h3, .ref h4, .ref h5, .int 0])), (h1, .inl (cI, 165, .inl f)), (h3, .inl (cI, 330, .inl sl)), (h4, .inl (cJ, 2, .inr (.inl se))), (h5, .inl (cZ, 2, .inl sv))] : va_W) = [(h0, .inr (7, [.ref h1, .long me, .ref h2, .ref h3, .ref h4, .ref h5, .int 0])), (h1, .inl (cI, 165, .inl f)), (h3, .inl (cI, 330, .inl (cpS sl f (165 * p0.toNatClampNeg) 0))), (h4, .inl (cJ, 2, .inr (.inl se))), (h5, .inl (cZ, 2, .inl sv))] := by rfl
    have eL : ([(0, .ref h0), (1, .int p0), (2, .int 0)] : List (Nat × Value)) = [(0, .ref h0), (1, .int p0), (2, .int (nI 0))] := by rfl
    exact L27 (165 + 1) 0 H locs ls (by omega) (by omega) (P_eq eW (hP.sub (ws' := [(h0, .inr (7, [.ref h1, .long me, .ref h2, .ref h3, .ref h4, .ref h5, .int 0])), (h1, .inl (cI, 165, .inl f)), (h3, .inl (cI, 330, .inl sl)), (h4, .inl (cJ, 2, .inr (.inl se))), (h5, .inl (cZ, 2, .inl sv))]) [0, 1, 2, 3, 4] rfl)) (D_eq eW (hD.sub (ws' := [(h0, .inr (7, [.ref h1, .long me, .ref h2, .ref h3, .ref h4, .ref h5, .int 0])), (h1, .inl (cI, 165, .inl f)), (h3, .inl (cI, 330, .inl sl)), (h4, .inl (cJ, 2, .inr (.inl se))), (h5, .inl (cZ, 2, .inl sv))]) [0, 1, 2, 3, 4] (by decide) rfl)) hS (L_eq eL (lv_sub (l' := [(0, .ref h0), (1, .int p0), (2, .int 0)]) hl [1, 2, 0] rfl))

def v_h0_energy_X7_restore (me : Int64) (se : Nat → Int64) (sv : Nat → Int32) (p0 : Int32) : Int64 := (if (r_X7_in p0 0 1) = 0 then me else (if (sv p0.toNatClampNeg) = 0 then me else (se p0.toNatClampNeg) : Int64) : Int64)
def v_h0_thrown_X7_restore (sv : Nat → Int32) (p0 : Int32) : Int32 := (if (r_X7_in p0 0 1) = 0 then 1 else (if (sv p0.toNatClampNeg) = 0 then 2 else 0 : Int32) : Int32)
def a_h1_X7_restore (f : Nat → Int32) (sl : Nat → Int32) (sv : Nat → Int32) (p0 : Int32) : Nat → Int32 := (if (r_X7_in p0 0 1) = 0 then f else (if (sv p0.toNatClampNeg) = 0 then f else (cpR f sl (165 * p0.toNatClampNeg) 165) : Nat → Int32) : Nat → Int32)
set_option maxHeartbeats 4000000 in
set_option maxRecDepth 100000 in
theorem mX7_restore (l : Launch) (D : va_G) (cI cJ cZ cO : ClassId) (h0 : Nat) (h1 : Nat) (h2 : Nat) (h3 : Nat) (h4 : Nat) (h5 : Nat) (me : Int64) (tw : Int32) (f : Nat → Int32) (sl : Nat → Int32) (se : Nat → Int64) (sv : Nat → Int32) (p0 : Int32) : MV l yX7_restore wsX7_restore ({ frames := 1, cells := 0, slots := 0, locals := 22 } : Room) D (tysK cI cJ cZ cO) [.ref h0, .int p0] [(h0, .inr (7, [.ref h1, .long me, .ref h2, .ref h3, .ref h4, .ref h5, .int tw])), (h1, .inl (cI, 165, .inl f)), (h3, .inl (cI, 330, .inl sl)), (h4, .inl (cJ, 2, .inr (.inl se))), (h5, .inl (cZ, 2, .inl sv))] (fun (_ : Unit) => [(h0, .inr (7, [.ref h1, .long (v_h0_energy_X7_restore me se sv p0), .ref h2, .ref h3, .ref h4, .ref h5, .int (v_h0_thrown_X7_restore sv p0)])), (h1, .inl (cI, 165, .inl (a_h1_X7_restore f sl sv p0))), (h3, .inl (cI, 330, .inl sl)), (h4, .inl (cJ, 2, .inr (.inl se))), (h5, .inl (cZ, 2, .inl sv))]) := by
  refine MV.of (cc := cX7_restore) (maxL := 3) (by decide) rfl (Nat.le_of_ble_eq_true rfl) ?_
  intro p e s m args below meth c A Q ls H locs B hin hS hP hD hl hret
  obtain ⟨hx, hb, hml, hown, hts, hK, hN, hA, hlocks⟩ := B
  have hi7 : ∀ w ∈ u_ws RX7 TX7 7, w ∈ wsX7_restore := by decide +kernel
  have hl : lv_has ls 3 [(0, .ref h0), (1, .int p0)] := hl
  refine lv_aload_n hx hb dX7_restore_0 rfl (lv_at hl 0 rfl) ?_
  refine lv_iload_n hx hb dX7_restore_1 rfl (lv_at hl 1 rfl) ?_
  refine lv_iconst (v := 0) hx hb dX7_restore_2 (by decide) ?_
  refine lv_iconst (v := 1) hx hb dX7_restore_3 (by decide) ?_
  refine call_i (wr := [(h0, .inr (7, [.ref h1, .long me, .ref h2, .ref h3, .ref h4, .ref h5, .int tw])), (h1, .inl (cI, 165, .inl f)), (h3, .inl (cI, 330, .inl sl)), (h4, .inl (cJ, 2, .inr (.inl se))), (h5, .inl (cZ, 2, .inl sv))]) (k := 0) (n := 0) (run_S (As := [.int p0, .int 0, .int 1]) (rest := [.ref h0]) ⟨hx, hb, hml, hown, hts⟩ (mX7_in l D cI cJ cZ cO p0 0 1 H.size) (va_cwS 3 hts gX7_restore_X7_in rfl rfl rfl (by decide +kernel) ⟨Nat.le_of_ble_eq_true rfl, Nat.le_of_ble_eq_true rfl⟩) hK hN hP hD [] (by decide) rfl rfl rfl hl.1 (Nat.le_of_ble_eq_true rfl) dX7_restore_4 ⟨Nat.le_of_ble_eq_true rfl, Nat.le_of_ble_eq_true rfl⟩) hP hD hS hA [] [0, 1, 2, 3, 4] rfl rfl (by decide) (by decide) (Nat.le_of_ble_eq_true rfl) (Nat.le_of_ble_eq_true rfl) (fun H locs hP hD hS => ?_)
  have hP : va_P D vwCl [(h0, .inr (7, [.ref h1, .long me, .ref h2, .ref h3, .ref h4, .ref h5, .int tw])), (h1, .inl (cI, 165, .inl f)), (h3, .inl (cI, 330, .inl sl)), (h4, .inl (cJ, 2, .inr (.inl se))), (h5, .inl (cZ, 2, .inl sv))] H := hP
  have hD : va_D A [(h0, .inr (7, [.ref h1, .long me, .ref h2, .ref h3, .ref h4, .ref h5, .int tw])), (h1, .inl (cI, 165, .inl f)), (h3, .inl (cI, 330, .inl sl)), (h4, .inl (cJ, 2, .inr (.inl se))), (h5, .inl (cZ, 2, .inl sv))] := hD
  refine lv_if_ne (tgt := 14) hx hb dX7_restore_7 (by decide) (fun c2 => ?_) (fun c2 => ?_)
  · refine lv_aload_n hx hb dX7_restore_14 rfl (lv_at hl 0 rfl) ?_
    refine va_get (D := D) (ci := 7) (v := .ref h5) (C := RX7) (T := TX7) (N := 7) hx hb hts hi7 hown hK hP 0 rfl rfl 5 (by decide) (hts (.fieldLink RX7 23 "GridInverterModel" "isSaved" "[Z") (by decide +kernel)) (fun _ h9 => h9) rfl dX7_restore_15 ?_
    refine lv_iload_n hx hb dX7_restore_18 rfl (lv_at hl 1 rfl) ?_
    refine r_zald hx hb hK hP 4 2 rfl rfl p0.toNatClampNeg (in_n (lo := 0) (hi := 1) (by decide) (by decide) c2).1 (Nat.lt_succ_of_le (in_n (lo := 0) (hi := 1) (by decide) (by decide) c2).2.2) (Nat.le_of_ble_eq_true rfl) dX7_restore_19 ?_
    refine lv_if_ne (tgt := 27) hx hb dX7_restore_20 (by decide) (fun c4 => ?_) (fun c4 => ?_)
    · refine lv_iconst (v := 0) hx hb dX7_restore_27 (by decide) ?_
      refine va_put (D := D) (ci := 7) (v := .int 0) (ty := .int) (C := RX7) (T := TX7) (N := 7) hx hb hts hi7 tyX7 tyX7_ok nmX7 hown hK hP hD hS 0 rfl rfl 6 (by decide) (hts (.fieldLink RX7 30 "GridInverterModel" "thrown" "I") (by decide +kernel)) (fun _ h9 => h9) rfl (by decide +kernel) rfl rfl (Nat.le_of_ble_eq_true rfl) dX7_restore_28 (fun H locs hP hD hS => ?_)
      have hP : va_P D vwCl [(h0, .inr (7, [.ref h1, .long me, .ref h2, .ref h3, .ref h4, .ref h5, .int 0])), (h1, .inl (cI, 165, .inl f)), (h3, .inl (cI, 330, .inl sl)), (h4, .inl (cJ, 2, .inr (.inl se))), (h5, .inl (cZ, 2, .inl sv))] H := hP
      have hD : va_D A [(h0, .inr (7, [.ref h1, .long me, .ref h2, .ref h3, .ref h4, .ref h5, .int 0])), (h1, .inl (cI, 165, .inl f)), (h3, .inl (cI, 330, .inl sl)), (h4, .inl (cJ, 2, .inr (.inl se))), (h5, .inl (cZ, 2, .inl sv))] := hD
      refine lv_aload_n hx hb dX7_restore_31 rfl (lv_at hl 0 rfl) ?_
      refine va_get (D := D) (ci := 7) (v := .int 0) (C := RX7) (T := TX7) (N := 7) hx hb hts hi7 hown hK hP 0 rfl rfl 6 (by decide) (hts (.fieldLink RX7 30 "GridInverterModel" "thrown" "I") (by decide +kernel)) (fun _ h9 => h9) rfl dX7_restore_32 ?_
      refine lv_if_ne (tgt := 81) hx hb dX7_restore_35 (by decide) (fun h => absurd rfl h) (fun _ => ?_)
      refine lv_iconst (v := 0) hx hb dX7_restore_38 (by decide) ?_
      refine lv_istore_n (lv' := [(2, .int 0), (0, .ref h0), (1, .int p0)]) hx hb dX7_restore_39 rfl hl (by decide) rfl (fun ls hl => ?_)
      obtain ⟨hpN, hp1, hp2⟩ := in_n (lo := 0) (hi := 1) (by decide) (by decide) c2
      have L40 : ∀ (n i : Nat) (H : Heap) (locs : List Loc) (ls : Array Slot), i ≤ 165 → 165 + 1 ≤ i + n → va_P D vwCl [(h0, .inr (7, [.ref h1, .long me, .ref h2, .ref h3, .ref h4, .ref h5, .int 0])), (h1, .inl (cI, 165, .inl (cpR f sl (165 * p0.toNatClampNeg) i))), (h3, .inl (cI, 330, .inl sl)), (h4, .inl (cJ, 2, .inr (.inl se))), (h5, .inl (cZ, 2, .inl sv))] H → va_D A [(h0, .inr (7, [.ref h1, .long me, .ref h2, .ref h3, .ref h4, .ref h5, .int 0])), (h1, .inl (cI, 165, .inl (cpR f sl (165 * p0.toNatClampNeg) i))), (h3, .inl (cI, 330, .inl sl)), (h4, .inl (cJ, 2, .inr (.inl se))), (h5, .inl (cZ, 2, .inl sv))] → va_S A s.heap H locs → lv_has ls 3 [(0, .ref h0), (1, .int p0), (2, .int (nI i))] → W p l e ({ frames := 1, cells := 0, slots := 0, locals := 22 } : Room) s m args below meth c H locs 0 0 Q (F0 m 40 ls []) := by
        intro n
        induction n with
        | zero => intro i H locs ls hi hin; exact absurd hin (by omega)
        | succ n ih =>
          intro i H locs ls hi hin hP hD hS hl
          refine lv_iload_n hx hb dX7_restore_40 rfl (lv_at hl 2 rfl) ?_
          refine lv_sipush (v := 165) hx hb dX7_restore_41 (by decide) ?_
          refine lv_icmp_ge (tgt := 71) hx hb dX7_restore_44 (by decide) (fun c5 => ?_) (fun c5 => ?_)
          · have hiN : 165 = i := Nat.le_antisymm ((gd_ex (N := 165) rfl (Nat.le_of_ble_eq_true rfl) hi c5)) hi
            subst hiN
            have hP : va_P D vwCl [(h0, .inr (7, [.ref h1, .long me, .ref h2, .ref h3, .ref h4, .ref h5, .int 0])), (h1, .inl (cI, 165, .inl (cpR f sl (165 * p0.toNatClampNeg) 165))), (h3, .inl (cI, 330, .inl sl)), (h4, .inl (cJ, 2, .inr (.inl se))), (h5, .inl (cZ, 2, .inl sv))] H := hP
            have hD : va_D A [(h0, .inr (7, [.ref h1, .long me, .ref h2, .ref h3, .ref h4, .ref h5, .int 0])), (h1, .inl (cI, 165, .inl (cpR f sl (165 * p0.toNatClampNeg) 165))), (h3, .inl (cI, 330, .inl sl)), (h4, .inl (cJ, 2, .inr (.inl se))), (h5, .inl (cZ, 2, .inl sv))] := hD
            have hl : lv_has ls 3 [(0, .ref h0), (1, .int p0), (2, .int (nI 165))] := hl
            refine lv_aload_n hx hb dX7_restore_71 rfl (lv_at hl 0 rfl) ?_
            refine lv_aload_n hx hb dX7_restore_72 rfl (lv_at hl 0 rfl) ?_
            refine va_get (D := D) (ci := 7) (v := .ref h4) (C := RX7) (T := TX7) (N := 7) hx hb hts hi7 hown hK hP 0 rfl rfl 4 (by decide) (hts (.fieldLink RX7 19 "GridInverterModel" "slotEnergy" "[J") (by decide +kernel)) (fun _ h9 => h9) rfl dX7_restore_73 ?_
            refine lv_iload_n hx hb dX7_restore_76 rfl (lv_at hl 1 rfl) ?_
            refine r_lald hx hb hK hP 3 1 rfl rfl p0.toNatClampNeg hpN (by omega) (Nat.le_of_ble_eq_true rfl) dX7_restore_77 ?_
            refine va_put (D := D) (ci := 7) (v := .long (se p0.toNatClampNeg)) (ty := .long) (C := RX7) (T := TX7) (N := 7) hx hb hts hi7 tyX7 tyX7_ok nmX7 hown hK hP hD hS 0 rfl rfl 1 (by decide) (hts (.fieldLink RX7 91 "GridInverterModel" "energy" "J") (by decide +kernel)) (fun _ h9 => h9) rfl (by decide +kernel) rfl rfl (Nat.le_of_ble_eq_true rfl) dX7_restore_78 (fun H locs hP hD hS => ?_)
            obtain ⟨x6, ex6⟩ : ∃ zz_, zz_ = (cpR f sl (165 * p0.toNatClampNeg) 165) := ⟨_, rfl⟩
            have hP : va_P D vwCl [(h0, .inr (7, [.ref h1, .long (se p0.toNatClampNeg), .ref h2, .ref h3, .ref h4, .ref h5, .int 0])), (h1, .inl (cI, 165, .inl x6)), (h3, .inl (cI, 330, .inl sl)), (h4, .inl (cJ, 2, .inr (.inl se))), (h5, .inl (cZ, 2, .inl sv))] H := by rw [ex6]; exact hP
            have hD : va_D A [(h0, .inr (7, [.ref h1, .long (se p0.toNatClampNeg), .ref h2, .ref h3, .ref h4, .ref h5, .int 0])), (h1, .inl (cI, 165, .inl x6)), (h3, .inl (cI, 330, .inl sl)), (h4, .inl (cJ, 2, .inr (.inl se))), (h5, .inl (cZ, 2, .inl sv))] := by rw [ex6]; exact hD
            exact hret () _ _ _ _ _ _ _ (by subst ex6; first | with_reducible rfl | (simp only [v_h0_energy_X7_restore, v_h0_thrown_X7_restore, a_h1_X7_restore, if_neg c2, if_neg c4]; done) | rfl) hP hD hS (Nat.le_of_ble_eq_true rfl) (Nat.le_of_ble_eq_true rfl) dX7_restore_81
          · have hiN : i < 165 := (gd_in (N := 165) rfl (Nat.le_of_ble_eq_true rfl) hi c5)
            refine lv_aload_n hx hb dX7_restore_47 rfl (lv_at hl 0 rfl) ?_
            refine va_get (D := D) (ci := 7) (v := .ref h1) (C := RX7) (T := TX7) (N := 7) hx hb hts hi7 hown hK hP 0 rfl rfl 0 (by decide) (hts (.fieldLink RX7 7 "GridInverterModel" "at" "[I") (by decide +kernel)) (fun _ h9 => h9) rfl dX7_restore_48 ?_
            refine lv_iload_n hx hb dX7_restore_51 rfl (lv_at hl 2 rfl) ?_
            refine lv_aload_n hx hb dX7_restore_52 rfl (lv_at hl 0 rfl) ?_
            refine va_get (D := D) (ci := 7) (v := .ref h3) (C := RX7) (T := TX7) (N := 7) hx hb hts hi7 hown hK hP 0 rfl rfl 3 (by decide) (hts (.fieldLink RX7 16 "GridInverterModel" "slots" "[I") (by decide +kernel)) (fun _ h9 => h9) rfl dX7_restore_53 ?_
            refine lv_sipush (v := 165) hx hb dX7_restore_56 (by decide) ?_
            refine lv_iload_n hx hb dX7_restore_59 rfl (lv_at hl 1 rfl) ?_
            refine lv_imul hx hb dX7_restore_60 ?_
            refine lv_iload_n hx hb dX7_restore_61 rfl (lv_at hl 2 rfl) ?_
            refine lv_iadd hx hb dX7_restore_62 ?_
            refine r_ald hx hb hK hP 2 0 rfl rfl (165 * p0.toNatClampNeg + i) (by exact sl_ix hpN i) (by omega) (Nat.le_of_ble_eq_true rfl) (v := (sl (165 * p0.toNatClampNeg + i))) rfl dX7_restore_63 ?_
            refine lv_topi (fun x7 ex7 => ?_)
            refine r_ast hx hb hK hP hD hS 1 0 rfl rfl i rfl (by omega) (Nat.le_of_ble_eq_true rfl) dX7_restore_64 (fun H locs hP hD hS => ?_)
            obtain ⟨x8, ex8⟩ : ∃ zz_, zz_ = (upd (cpR f sl (165 * p0.toNatClampNeg) i) i x7) := ⟨_, rfl⟩
            have hP : va_P D vwCl [(h0, .inr (7, [.ref h1, .long me, .ref h2, .ref h3, .ref h4, .ref h5, .int 0])), (h1, .inl (cI, 165, .inl x8)), (h3, .inl (cI, 330, .inl sl)), (h4, .inl (cJ, 2, .inr (.inl se))), (h5, .inl (cZ, 2, .inl sv))] H := by rw [ex8]; exact hP
            have hD : va_D A [(h0, .inr (7, [.ref h1, .long me, .ref h2, .ref h3, .ref h4, .ref h5, .int 0])), (h1, .inl (cI, 165, .inl x8)), (h3, .inl (cI, 330, .inl sl)), (h4, .inl (cJ, 2, .inr (.inl se))), (h5, .inl (cZ, 2, .inl sv))] := by rw [ex8]; exact hD
            refine lv_iinc (v := (nI (i + 1))) (lv' := [(2, .int (nI (i + 1))), (0, .ref h0), (1, .int p0)]) hx hb dX7_restore_65 hl (k := 2) rfl (nI_1 i) (by decide) rfl (fun ls hl => ?_)
            refine lv_goto (tgt := 40) hx hb dX7_restore_68 (by decide) ?_
            have eW : ([(h0, .inr (7, [.ref h1, .long me, .ref h2, .ref h3, .ref h4, .ref h5, .int 0])), (h1, .inl (cI, 165, .inl x8)), (h3, .inl (cI, 330, .inl sl)), (h4, .inl (cJ, 2, .inr (.inl se))), (h5, .inl (cZ, 2, .inl sv))] : va_W) = [(h0, .inr (7, [.ref h1, .long me, .ref h2, .ref h3, .ref h4, .ref h5, .int 0])), (h1, .inl (cI, 165, .inl (cpR f sl (165 * p0.toNatClampNeg) (i + 1)))), (h3, .inl (cI, 330, .inl sl)), (h4, .inl (cJ, 2, .inr (.inl se))), (h5, .inl (cZ, 2, .inl sv))] := (by subst ex7; subst ex8; rfl)
            have eL : ([(0, .ref h0), (1, .int p0), (2, .int (nI (i + 1)))] : List (Nat × Value)) = [(0, .ref h0), (1, .int p0), (2, .int (nI (i + 1)))] := (by subst ex7; subst ex8; rfl)
            exact ih (i + 1) H locs ls (by omega) (by omega) (P_eq eW (hP.sub (ws' := [(h0, .inr (7, [.ref h1, .long me, .ref h2, .ref h3, .ref h4, .ref h5, .int 0])), (h1, .inl (cI, 165, .inl x8)), (h3, .inl (cI, 330, .inl sl)), (h4, .inl (cJ, 2, .inr (.inl se))), (h5, .inl (cZ, 2, .inl sv))]) [0, 1, 2, 3, 4] rfl)) (D_eq eW (hD.sub (ws' := [(h0, .inr (7, [.ref h1, .long me, .ref h2, .ref h3, .ref h4, .ref h5, .int 0])), (h1, .inl (cI, 165, .inl x8)), (h3, .inl (cI, 330, .inl sl)), (h4, .inl (cJ, 2, .inr (.inl se))), (h5, .inl (cZ, 2, .inl sv))]) [0, 1, 2, 3, 4] (by decide) rfl)) hS (L_eq eL (lv_sub (l' := [(0, .ref h0), (1, .int p0), (2, .int (nI (i + 1)))]) hl [1, 2, 0] rfl))
      have eW : ([(h0, .inr (7, [.ref h1, .long me, .ref h2, .ref h3, .ref h4, .ref h5, .int 0])), (h1, .inl (cI, 165, .inl f)), (h3, .inl (cI, 330, .inl sl)), (h4, .inl (cJ, 2, .inr (.inl se))), (h5, .inl (cZ, 2, .inl sv))] : va_W) = [(h0, .inr (7, [.ref h1, .long me, .ref h2, .ref h3, .ref h4, .ref h5, .int 0])), (h1, .inl (cI, 165, .inl (cpR f sl (165 * p0.toNatClampNeg) 0))), (h3, .inl (cI, 330, .inl sl)), (h4, .inl (cJ, 2, .inr (.inl se))), (h5, .inl (cZ, 2, .inl sv))] := by rfl
      have eL : ([(0, .ref h0), (1, .int p0), (2, .int 0)] : List (Nat × Value)) = [(0, .ref h0), (1, .int p0), (2, .int (nI 0))] := by rfl
      exact L40 (165 + 1) 0 H locs ls (by omega) (by omega) (P_eq eW (hP.sub (ws' := [(h0, .inr (7, [.ref h1, .long me, .ref h2, .ref h3, .ref h4, .ref h5, .int 0])), (h1, .inl (cI, 165, .inl f)), (h3, .inl (cI, 330, .inl sl)), (h4, .inl (cJ, 2, .inr (.inl se))), (h5, .inl (cZ, 2, .inl sv))]) [0, 1, 2, 3, 4] rfl)) (D_eq eW (hD.sub (ws' := [(h0, .inr (7, [.ref h1, .long me, .ref h2, .ref h3, .ref h4, .ref h5, .int 0])), (h1, .inl (cI, 165, .inl f)), (h3, .inl (cI, 330, .inl sl)), (h4, .inl (cJ, 2, .inr (.inl se))), (h5, .inl (cZ, 2, .inl sv))]) [0, 1, 2, 3, 4] (by decide) rfl)) hS (L_eq eL (lv_sub (l' := [(0, .ref h0), (1, .int p0), (2, .int 0)]) hl [1, 2, 0] rfl))
    · refine lv_iconst (v := 2) hx hb dX7_restore_23 (by decide) ?_
      refine lv_goto (tgt := 28) hx hb dX7_restore_24 (by decide) ?_
      refine va_put (D := D) (ci := 7) (v := .int 2) (ty := .int) (C := RX7) (T := TX7) (N := 7) hx hb hts hi7 tyX7 tyX7_ok nmX7 hown hK hP hD hS 0 rfl rfl 6 (by decide) (hts (.fieldLink RX7 30 "GridInverterModel" "thrown" "I") (by decide +kernel)) (fun _ h9 => h9) rfl (by decide +kernel) rfl rfl (Nat.le_of_ble_eq_true rfl) dX7_restore_28 (fun H locs hP hD hS => ?_)
      have hP : va_P D vwCl [(h0, .inr (7, [.ref h1, .long me, .ref h2, .ref h3, .ref h4, .ref h5, .int 2])), (h1, .inl (cI, 165, .inl f)), (h3, .inl (cI, 330, .inl sl)), (h4, .inl (cJ, 2, .inr (.inl se))), (h5, .inl (cZ, 2, .inl sv))] H := hP
      have hD : va_D A [(h0, .inr (7, [.ref h1, .long me, .ref h2, .ref h3, .ref h4, .ref h5, .int 2])), (h1, .inl (cI, 165, .inl f)), (h3, .inl (cI, 330, .inl sl)), (h4, .inl (cJ, 2, .inr (.inl se))), (h5, .inl (cZ, 2, .inl sv))] := hD
      refine lv_aload_n hx hb dX7_restore_31 rfl (lv_at hl 0 rfl) ?_
      refine va_get (D := D) (ci := 7) (v := .int 2) (C := RX7) (T := TX7) (N := 7) hx hb hts hi7 hown hK hP 0 rfl rfl 6 (by decide) (hts (.fieldLink RX7 30 "GridInverterModel" "thrown" "I") (by decide +kernel)) (fun _ h9 => h9) rfl dX7_restore_32 ?_
      refine lv_if_ne (tgt := 81) hx hb dX7_restore_35 (by decide) (fun _ => ?_) (fun h => absurd h (by decide))
      exact hret () _ _ _ _ _ _ _ (by first | with_reducible rfl | (simp only [v_h0_energy_X7_restore, v_h0_thrown_X7_restore, a_h1_X7_restore, if_neg c2, if_pos c4]; done) | rfl) hP hD hS (Nat.le_of_ble_eq_true rfl) (Nat.le_of_ble_eq_true rfl) dX7_restore_81
  · refine lv_iconst (v := 1) hx hb dX7_restore_10 (by decide) ?_
    refine lv_goto (tgt := 28) hx hb dX7_restore_11 (by decide) ?_
    refine va_put (D := D) (ci := 7) (v := .int 1) (ty := .int) (C := RX7) (T := TX7) (N := 7) hx hb hts hi7 tyX7 tyX7_ok nmX7 hown hK hP hD hS 0 rfl rfl 6 (by decide) (hts (.fieldLink RX7 30 "GridInverterModel" "thrown" "I") (by decide +kernel)) (fun _ h9 => h9) rfl (by decide +kernel) rfl rfl (Nat.le_of_ble_eq_true rfl) dX7_restore_28 (fun H locs hP hD hS => ?_)
    have hP : va_P D vwCl [(h0, .inr (7, [.ref h1, .long me, .ref h2, .ref h3, .ref h4, .ref h5, .int 1])), (h1, .inl (cI, 165, .inl f)), (h3, .inl (cI, 330, .inl sl)), (h4, .inl (cJ, 2, .inr (.inl se))), (h5, .inl (cZ, 2, .inl sv))] H := hP
    have hD : va_D A [(h0, .inr (7, [.ref h1, .long me, .ref h2, .ref h3, .ref h4, .ref h5, .int 1])), (h1, .inl (cI, 165, .inl f)), (h3, .inl (cI, 330, .inl sl)), (h4, .inl (cJ, 2, .inr (.inl se))), (h5, .inl (cZ, 2, .inl sv))] := hD
    refine lv_aload_n hx hb dX7_restore_31 rfl (lv_at hl 0 rfl) ?_
    refine va_get (D := D) (ci := 7) (v := .int 1) (C := RX7) (T := TX7) (N := 7) hx hb hts hi7 hown hK hP 0 rfl rfl 6 (by decide) (hts (.fieldLink RX7 30 "GridInverterModel" "thrown" "I") (by decide +kernel)) (fun _ h9 => h9) rfl dX7_restore_32 ?_
    refine lv_if_ne (tgt := 81) hx hb dX7_restore_35 (by decide) (fun _ => ?_) (fun h => absurd h (by decide))
    exact hret () _ _ _ _ _ _ _ (by first | with_reducible rfl | (simp only [v_h0_energy_X7_restore, v_h0_thrown_X7_restore, a_h1_X7_restore, if_pos c2]; done) | rfl) hP hD hS (Nat.le_of_ble_eq_true rfl) (Nat.le_of_ble_eq_true rfl) dX7_restore_81

def r_X7_event (f : Nat → Int32) (p0 : Int32) (p1 : Int32) : Int32 := (if (r_X7_in p1 0 1) = 0 then 0 else (if (r_X7_in p0 0 ((f 32) - 1)) = 0 then (-1) else (if ((f 32) - 40) ≤ p0 then (if p1 = 0 then (f (85 + p0.toNatClampNeg % 40)) else (f (125 + p0.toNatClampNeg % 40)) : Int32) else (-1) : Int32) : Int32) : Int32)
def v_h0_thrown_X7_event (p1 : Int32) : Int32 := (if (r_X7_in p1 0 1) = 0 then 1 else 0 : Int32)
set_option maxHeartbeats 4000000 in
set_option maxRecDepth 100000 in
theorem mX7_event (l : Launch) (D : va_G) (cI cJ cZ cO : ClassId) (h0 : Nat) (h1 : Nat) (h2 : Nat) (h3 : Nat) (h4 : Nat) (h5 : Nat) (me : Int64) (tw : Int32) (f : Nat → Int32) (p0 : Int32) (p1 : Int32) : MI l yX7_event wsX7_event ({ frames := 1, cells := 0, slots := 0, locals := 22 } : Room) D (tysK cI cJ cZ cO) [.ref h0, .int p0, .int p1] [(h0, .inr (7, [.ref h1, .long me, .ref h2, .ref h3, .ref h4, .ref h5, .int tw])), (h1, .inl (cI, 165, .inl f))] (r_X7_event f p0 p1) [(h0, .inr (7, [.ref h1, .long me, .ref h2, .ref h3, .ref h4, .ref h5, .int (v_h0_thrown_X7_event p1)])), (h1, .inl (cI, 165, .inl f))] := by
  refine MI.of (cc := cX7_event) (maxL := 3) (ret := .int) (by decide) rfl (Nat.le_of_ble_eq_true rfl) rfl ?_
  intro p e s m args below meth c A Q ls H locs B hS hP hD hl hret
  obtain ⟨hx, hb, hml, hown, hts, hK, hN, hA, hlocks⟩ := B
  have hi7 : ∀ w ∈ u_ws RX7 TX7 7, w ∈ wsX7_event := by decide +kernel
  have hl : lv_has ls 3 [(0, .ref h0), (1, .int p0), (2, .int p1)] := hl
  refine lv_aload_n hx hb dX7_event_0 rfl (lv_at hl 0 rfl) ?_
  refine lv_iload_n hx hb dX7_event_1 rfl (lv_at hl 2 rfl) ?_
  refine lv_iconst (v := 0) hx hb dX7_event_2 (by decide) ?_
  refine lv_iconst (v := 1) hx hb dX7_event_3 (by decide) ?_
  refine call_i (wr := [(h0, .inr (7, [.ref h1, .long me, .ref h2, .ref h3, .ref h4, .ref h5, .int tw])), (h1, .inl (cI, 165, .inl f))]) (k := 0) (n := 0) (run_S (As := [.int p1, .int 0, .int 1]) (rest := [.ref h0]) ⟨hx, hb, hml, hown, hts⟩ (mX7_in l D cI cJ cZ cO p1 0 1 H.size) (va_cwS 3 hts gX7_event_X7_in rfl rfl rfl (by decide +kernel) ⟨Nat.le_of_ble_eq_true rfl, Nat.le_of_ble_eq_true rfl⟩) hK hN hP hD [] (by decide) rfl rfl rfl hl.1 (Nat.le_of_ble_eq_true rfl) dX7_event_4 ⟨Nat.le_of_ble_eq_true rfl, Nat.le_of_ble_eq_true rfl⟩) hP hD hS hA [] [0, 1] rfl rfl (by decide) (by decide) (Nat.le_of_ble_eq_true rfl) (Nat.le_of_ble_eq_true rfl) (fun H locs hP hD hS => ?_)
  have hP : va_P D vwCl [(h0, .inr (7, [.ref h1, .long me, .ref h2, .ref h3, .ref h4, .ref h5, .int tw])), (h1, .inl (cI, 165, .inl f))] H := hP
  have hD : va_D A [(h0, .inr (7, [.ref h1, .long me, .ref h2, .ref h3, .ref h4, .ref h5, .int tw])), (h1, .inl (cI, 165, .inl f))] := hD
  refine lv_if_eq (tgt := 14) hx hb dX7_event_7 (by decide) (fun c2 => ?_) (fun c2 => ?_)
  · refine lv_iconst (v := 1) hx hb dX7_event_14 (by decide) ?_
    refine va_put (D := D) (ci := 7) (v := .int 1) (ty := .int) (C := RX7) (T := TX7) (N := 7) hx hb hts hi7 tyX7 tyX7_ok nmX7 hown hK hP hD hS 0 rfl rfl 6 (by decide) (hts (.fieldLink RX7 30 "GridInverterModel" "thrown" "I") (by decide +kernel)) (fun _ h9 => h9) rfl (by decide +kernel) rfl rfl (Nat.le_of_ble_eq_true rfl) dX7_event_15 (fun H locs hP hD hS => ?_)
    have hP : va_P D vwCl [(h0, .inr (7, [.ref h1, .long me, .ref h2, .ref h3, .ref h4, .ref h5, .int 1])), (h1, .inl (cI, 165, .inl f))] H := hP
    have hD : va_D A [(h0, .inr (7, [.ref h1, .long me, .ref h2, .ref h3, .ref h4, .ref h5, .int 1])), (h1, .inl (cI, 165, .inl f))] := hD
    refine lv_aload_n hx hb dX7_event_18 rfl (lv_at hl 0 rfl) ?_
    refine va_get (D := D) (ci := 7) (v := .int 1) (C := RX7) (T := TX7) (N := 7) hx hb hts hi7 hown hK hP 0 rfl rfl 6 (by decide) (hts (.fieldLink RX7 30 "GridInverterModel" "thrown" "I") (by decide +kernel)) (fun _ h9 => h9) rfl dX7_event_19 ?_
    refine lv_if_eq (tgt := 27) hx hb dX7_event_22 (by decide) (fun h => absurd h (by decide)) (fun _ => ?_)
    refine lv_iconst (v := 0) hx hb dX7_event_25 (by decide) ?_
    exact hret _ _ _ _ _ _ _ _ (by first | with_reducible rfl | (simp only [r_X7_event, v_h0_thrown_X7_event, if_pos c2]; done) | rfl) (by first | with_reducible rfl | (simp only [r_X7_event, v_h0_thrown_X7_event, if_pos c2]; done) | rfl) hP hD hS (Nat.le_of_ble_eq_true rfl) (Nat.le_of_ble_eq_true rfl) dX7_event_26
  · refine lv_iconst (v := 0) hx hb dX7_event_10 (by decide) ?_
    refine lv_goto (tgt := 15) hx hb dX7_event_11 (by decide) ?_
    refine va_put (D := D) (ci := 7) (v := .int 0) (ty := .int) (C := RX7) (T := TX7) (N := 7) hx hb hts hi7 tyX7 tyX7_ok nmX7 hown hK hP hD hS 0 rfl rfl 6 (by decide) (hts (.fieldLink RX7 30 "GridInverterModel" "thrown" "I") (by decide +kernel)) (fun _ h9 => h9) rfl (by decide +kernel) rfl rfl (Nat.le_of_ble_eq_true rfl) dX7_event_15 (fun H locs hP hD hS => ?_)
    have hP : va_P D vwCl [(h0, .inr (7, [.ref h1, .long me, .ref h2, .ref h3, .ref h4, .ref h5, .int 0])), (h1, .inl (cI, 165, .inl f))] H := hP
    have hD : va_D A [(h0, .inr (7, [.ref h1, .long me, .ref h2, .ref h3, .ref h4, .ref h5, .int 0])), (h1, .inl (cI, 165, .inl f))] := hD
    refine lv_aload_n hx hb dX7_event_18 rfl (lv_at hl 0 rfl) ?_
    refine va_get (D := D) (ci := 7) (v := .int 0) (C := RX7) (T := TX7) (N := 7) hx hb hts hi7 hown hK hP 0 rfl rfl 6 (by decide) (hts (.fieldLink RX7 30 "GridInverterModel" "thrown" "I") (by decide +kernel)) (fun _ h9 => h9) rfl dX7_event_19 ?_
    refine lv_if_eq (tgt := 27) hx hb dX7_event_22 (by decide) (fun _ => ?_) (fun h => absurd (by decide) h)
    refine lv_iload_n hx hb dX7_event_27 rfl (lv_at hl 1 rfl) ?_
    refine lv_iconst (v := 0) hx hb dX7_event_28 (by decide) ?_
    refine lv_aload_n hx hb dX7_event_29 rfl (lv_at hl 0 rfl) ?_
    refine va_get (D := D) (ci := 7) (v := .ref h1) (C := RX7) (T := TX7) (N := 7) hx hb hts hi7 hown hK hP 0 rfl rfl 0 (by decide) (hts (.fieldLink RX7 7 "GridInverterModel" "at" "[I") (by decide +kernel)) (fun _ h9 => h9) rfl dX7_event_30 ?_
    refine lv_bipush (v := 32) hx hb dX7_event_33 (by decide) ?_
    refine r_ald hx hb hK hP 1 0 rfl rfl 32 rfl (Nat.le_of_ble_eq_true rfl) (Nat.le_of_ble_eq_true rfl) (v := (f 32)) rfl dX7_event_35 ?_
    refine lv_iconst (v := 1) hx hb dX7_event_36 (by decide) ?_
    refine lv_isub hx hb dX7_event_37 ?_
    refine call_i (wr := [(h0, .inr (7, [.ref h1, .long me, .ref h2, .ref h3, .ref h4, .ref h5, .int 0])), (h1, .inl (cI, 165, .inl f))]) (k := 0) (n := 0) (run_S (As := [.int p0, .int 0, .int ((f 32) - 1)]) (rest := []) ⟨hx, hb, hml, hown, hts⟩ (mX7_in l D cI cJ cZ cO p0 0 ((f 32) - 1) H.size) (va_cwS 3 hts gX7_event_X7_in rfl rfl rfl (by decide +kernel) ⟨Nat.le_of_ble_eq_true rfl, Nat.le_of_ble_eq_true rfl⟩) hK hN hP hD [] (by decide) rfl rfl rfl hl.1 (Nat.le_of_ble_eq_true rfl) dX7_event_38 ⟨Nat.le_of_ble_eq_true rfl, Nat.le_of_ble_eq_true rfl⟩) hP hD hS hA [] [0, 1] rfl rfl (by decide) (by decide) (Nat.le_of_ble_eq_true rfl) (Nat.le_of_ble_eq_true rfl) (fun H locs hP hD hS => ?_)
    have hP : va_P D vwCl [(h0, .inr (7, [.ref h1, .long me, .ref h2, .ref h3, .ref h4, .ref h5, .int 0])), (h1, .inl (cI, 165, .inl f))] H := hP
    have hD : va_D A [(h0, .inr (7, [.ref h1, .long me, .ref h2, .ref h3, .ref h4, .ref h5, .int 0])), (h1, .inl (cI, 165, .inl f))] := hD
    refine lv_topi (fun x3 ex3 => ?_)
    refine lv_if_eq (tgt := 58) hx hb dX7_event_41 (by decide) (fun c5 => ?_) (fun c5 => ?_)
    · refine lv_iconst (v := (-1)) hx hb dX7_event_58 (by decide) ?_
      exact hret _ _ _ _ _ _ _ _ (by subst ex3; first | with_reducible rfl | (simp only [r_X7_event, v_h0_thrown_X7_event, if_neg c2, if_pos c5]; done) | rfl) (by subst ex3; first | with_reducible rfl | (simp only [r_X7_event, v_h0_thrown_X7_event, if_neg c2, if_pos c5]; done) | rfl) hP hD hS (Nat.le_of_ble_eq_true rfl) (Nat.le_of_ble_eq_true rfl) dX7_event_59
    · refine lv_iload_n hx hb dX7_event_44 rfl (lv_at hl 1 rfl) ?_
      refine lv_aload_n hx hb dX7_event_45 rfl (lv_at hl 0 rfl) ?_
      refine va_get (D := D) (ci := 7) (v := .ref h1) (C := RX7) (T := TX7) (N := 7) hx hb hts hi7 hown hK hP 0 rfl rfl 0 (by decide) (hts (.fieldLink RX7 7 "GridInverterModel" "at" "[I") (by decide +kernel)) (fun _ h9 => h9) rfl dX7_event_46 ?_
      refine lv_bipush (v := 32) hx hb dX7_event_49 (by decide) ?_
      refine r_ald hx hb hK hP 1 0 rfl rfl 32 rfl (Nat.le_of_ble_eq_true rfl) (Nat.le_of_ble_eq_true rfl) (v := (f 32)) rfl dX7_event_51 ?_
      refine lv_bipush (v := 40) hx hb dX7_event_52 (by decide) ?_
      refine lv_isub hx hb dX7_event_54 ?_
      refine lv_icmp_ge (tgt := 60) hx hb dX7_event_55 (by decide) (fun c7 => ?_) (fun c7 => ?_)
      · refine lv_aload_n hx hb dX7_event_60 rfl (lv_at hl 0 rfl) ?_
        refine va_get (D := D) (ci := 7) (v := .ref h1) (C := RX7) (T := TX7) (N := 7) hx hb hts hi7 hown hK hP 0 rfl rfl 0 (by decide) (hts (.fieldLink RX7 7 "GridInverterModel" "at" "[I") (by decide +kernel)) (fun _ h9 => h9) rfl dX7_event_61 ?_
        refine lv_iload_n hx hb dX7_event_64 rfl (lv_at hl 2 rfl) ?_
        refine lv_if_ne (tgt := 73) hx hb dX7_event_65 (by decide) (fun c9 => ?_) (fun c9 => ?_)
        · refine lv_bipush (v := 125) hx hb dX7_event_73 (by decide) ?_
          refine lv_iload_n hx hb dX7_event_75 rfl (lv_at hl 1 rfl) ?_
          refine lv_bipush (v := 40) hx hb dX7_event_76 (by decide) ?_
          refine lv_irem hx hb dX7_event_78 (by decide) ?_
          refine lv_iadd hx hb dX7_event_79 ?_
          refine lv_topi (fun x10 ex10 => ?_)
          refine r_ald hx hb hK hP 1 0 rfl rfl (125 + p0.toNatClampNeg % 40) (by subst ex3; subst ex10; exact rem_ix 125 40 (ev_ix c5).1 (ev_ix c5).2 (Nat.le_of_ble_eq_true rfl) (Nat.le_of_ble_eq_true rfl)) (by omega) (Nat.le_of_ble_eq_true rfl) (v := (f (125 + p0.toNatClampNeg % 40))) rfl dX7_event_80 ?_
          refine lv_topi (fun x11 ex11 => ?_)
          exact hret _ _ _ _ _ _ _ _ (by subst ex3; subst ex10; subst ex11; first | with_reducible rfl | (simp only [r_X7_event, v_h0_thrown_X7_event, if_neg c2, if_neg c5, if_pos c7, if_neg c9]; done) | rfl) (by subst ex3; subst ex10; subst ex11; first | with_reducible rfl | (simp only [r_X7_event, v_h0_thrown_X7_event, if_neg c2, if_neg c5, if_pos c7, if_neg c9]; done) | rfl) hP hD hS (Nat.le_of_ble_eq_true rfl) (Nat.le_of_ble_eq_true rfl) dX7_event_81
        · refine lv_bipush (v := 85) hx hb dX7_event_68 (by decide) ?_
          refine lv_goto (tgt := 75) hx hb dX7_event_70 (by decide) ?_
          refine lv_iload_n hx hb dX7_event_75 rfl (lv_at hl 1 rfl) ?_
          refine lv_bipush (v := 40) hx hb dX7_event_76 (by decide) ?_
          refine lv_irem hx hb dX7_event_78 (by decide) ?_
          refine lv_iadd hx hb dX7_event_79 ?_
          refine r_ald hx hb hK hP 1 0 rfl rfl (85 + p0.toNatClampNeg % 40) (by subst ex3; exact rem_ix 85 40 (ev_ix c5).1 (ev_ix c5).2 (Nat.le_of_ble_eq_true rfl) (Nat.le_of_ble_eq_true rfl)) (by omega) (Nat.le_of_ble_eq_true rfl) (v := (f (85 + p0.toNatClampNeg % 40))) rfl dX7_event_80 ?_
          refine lv_topi (fun x12 ex12 => ?_)
          exact hret _ _ _ _ _ _ _ _ (by subst ex3; subst ex12; first | with_reducible rfl | (simp only [r_X7_event, v_h0_thrown_X7_event, if_neg c2, if_neg c5, if_pos c7, if_pos c9]; done) | rfl) (by subst ex3; subst ex12; first | with_reducible rfl | (simp only [r_X7_event, v_h0_thrown_X7_event, if_neg c2, if_neg c5, if_pos c7, if_pos c9]; done) | rfl) hP hD hS (Nat.le_of_ble_eq_true rfl) (Nat.le_of_ble_eq_true rfl) dX7_event_81
      · refine lv_iconst (v := (-1)) hx hb dX7_event_58 (by decide) ?_
        exact hret _ _ _ _ _ _ _ _ (by subst ex3; first | with_reducible rfl | (simp only [r_X7_event, v_h0_thrown_X7_event, if_neg c2, if_neg c5, if_neg c7]; done) | rfl) (by subst ex3; first | with_reducible rfl | (simp only [r_X7_event, v_h0_thrown_X7_event, if_neg c2, if_neg c5, if_neg c7]; done) | rfl) hP hD hS (Nat.le_of_ble_eq_true rfl) (Nat.le_of_ble_eq_true rfl) dX7_event_59

def a_q1_X7_init : Nat → Int32 := (fillB (upd (upd (upd (upd (upd (upd (upd (upd (upd (upd (upd (upd (upd (upd (upd (upd (upd (upd (upd (upd (fun _ => 0) 1 230) 2 50000) 10 1) 11 230) 12 50000) 13 1000) 14 50000) 15 10) 5 50000) 16 200) 17 20) 18 5000) 19 100) 21 1000) 22 3000) 23 10) 24 207) 25 253) 26 49000) 27 51000) 33 50000 20)
def a_q2_X7_init : Nat → Int32 := (fun _ => 0)
def a_q3_X7_init : Nat → Int32 := (fun _ => 0)
def a_q4_X7_init : Nat → Int64 := (fun _ => 0)
def a_q5_X7_init : Nat → Int32 := (fun _ => 0)
set_option maxHeartbeats 4000000 in
set_option maxRecDepth 100000 in
theorem mX7_init (l : Launch) (D : va_G) (cI cJ cZ cO : ClassId) (h0 : Nat) : MV l yX7_init wsX7_init ({ frames := 1, cells := 5, slots := 664, locals := 20 } : Room) D (tysK cI cJ cZ cO) [.ref h0] [(h0, .inr (7, [.null, .long 0, .null, .null, .null, .null, .int 0]))] (fun (u : Nat → Nat) => [(h0, .inr (7, [.ref (u 0), .long 0, .ref (u 1), .ref (u 2), .ref (u 3), .ref (u 4), .int 0])), ((u 0), .inl (cI, 165, .inl a_q1_X7_init)), ((u 1), .inl (cI, 165, .inl a_q2_X7_init)), ((u 2), .inl (cI, 330, .inl a_q3_X7_init)), ((u 3), .inl (cJ, 2, .inr (.inl a_q4_X7_init))), ((u 4), .inl (cZ, 2, .inl a_q5_X7_init))]) := by
  refine MV.of (cc := cX7_init) (maxL := 2) (by decide) rfl (Nat.le_of_ble_eq_true rfl) ?_
  intro p e s m args below meth c A Q ls H locs B hin hS hP hD hl hret
  obtain ⟨hx, hb, hml, hown, hts, hK, hN, hA, hlocks⟩ := B
  have hi7 : ∀ w ∈ u_ws RX7 TX7 7, w ∈ wsX7_init := by decide +kernel
  have hl : lv_has ls 2 [(0, .ref h0)] := hl
  refine lv_aload_n hx hb dX7_init_0 rfl (lv_at hl 0 rfl) ?_
  refine W.objInit hx hb hown (hts (.methodLink RX7 1 objectInit) (by decide +kernel)) (hts (.instanceMethod objectInit) (by decide +kernel)) (hts (.code objectInit ⟨#[0xb1]⟩ 1 none) (List.mem_cons_of_mem _ (List.mem_append_left _ (List.mem_of_getElem? (i := 2) rfl)))) rfl (hl.1.trans hml.symm) rfl dX7_init_1 (Nat.le_of_ble_eq_true rfl) (Nat.le_of_ble_eq_true rfl) ?_
  refine W.eq (g2 := F0 m 4 ls []) rfl ?_
  refine lv_aload_n hx hb dX7_init_4 rfl (lv_at hl 0 rfl) ?_
  refine lv_sipush (v := 165) hx hb dX7_init_5 (by decide) ?_
  refine r_newa (atype := .int) hx hb (hts (.arrayClass .int) (by decide +kernel)) (ty := .int) rfl hK hP hD hS hA 0 rfl (a0 := (165, .inl (fun _ => 0))) (N' := 165) (fun _ => by first | rfl | (simp only [vp_cell_i]; rfl) | (simp [vp_cell, arrV])) (by decide) rfl (Nat.le_of_ble_eq_true rfl) (Nat.le_of_ble_eq_true rfl) (Nat.le_of_ble_eq_true rfl) dX7_init_8 (fun q1 H hP hD hS => ?_)
  have hP : va_P D vwCl [(h0, .inr (7, [.null, .long 0, .null, .null, .null, .null, .int 0])), (q1, .inl (cI, 165, .inl (fun _ => 0)))] H := hP
  have hD : va_D A [(h0, .inr (7, [.null, .long 0, .null, .null, .null, .null, .int 0])), (q1, .inl (cI, 165, .inl (fun _ => 0)))] := hD
  refine W.widen (k := 1) (n := 165) (Nat.le_of_ble_eq_true rfl) (Nat.le_of_ble_eq_true rfl) ?_
  refine va_putF (D := D) (ci := 7) (v := .ref q1) (ty := .array .int) (C := RX7) (T := TX7) (N := 7) hx hb hts hi7 tyX7 tyX7_ok nmX7 hown hK hP hD hS 0 rfl rfl 0 (by decide) (hts (.fieldLink RX7 7 "GridInverterModel" "at" "[I") (by decide +kernel)) (fun _ h9 => h9) rfl hin rfl (by decide +kernel) rfl rfl (Nat.le_of_ble_eq_true rfl) dX7_init_10 (fun H locs hP hD hS => ?_)
  have hP : va_P D vwCl [(h0, .inr (7, [.ref q1, .long 0, .null, .null, .null, .null, .int 0])), (q1, .inl (cI, 165, .inl (fun _ => 0)))] H := hP
  have hD : va_D A [(h0, .inr (7, [.ref q1, .long 0, .null, .null, .null, .null, .int 0])), (q1, .inl (cI, 165, .inl (fun _ => 0)))] := hD
  refine lv_aload_n hx hb dX7_init_13 rfl (lv_at hl 0 rfl) ?_
  refine lv_sipush (v := 165) hx hb dX7_init_14 (by decide) ?_
  refine r_newa (atype := .int) hx hb (hts (.arrayClass .int) (by decide +kernel)) (ty := .int) rfl hK hP hD hS hA 0 rfl (a0 := (165, .inl (fun _ => 0))) (N' := 165) (fun _ => by first | rfl | (simp only [vp_cell_i]; rfl) | (simp [vp_cell, arrV])) (by decide) rfl (Nat.le_of_ble_eq_true rfl) (Nat.le_of_ble_eq_true rfl) (Nat.le_of_ble_eq_true rfl) dX7_init_17 (fun q2 H hP hD hS => ?_)
  have hP : va_P D vwCl [(h0, .inr (7, [.ref q1, .long 0, .null, .null, .null, .null, .int 0])), (q1, .inl (cI, 165, .inl (fun _ => 0))), (q2, .inl (cI, 165, .inl (fun _ => 0)))] H := hP
  have hD : va_D A [(h0, .inr (7, [.ref q1, .long 0, .null, .null, .null, .null, .int 0])), (q1, .inl (cI, 165, .inl (fun _ => 0))), (q2, .inl (cI, 165, .inl (fun _ => 0)))] := hD
  refine W.widen (k := 2) (n := 330) (Nat.le_of_ble_eq_true rfl) (Nat.le_of_ble_eq_true rfl) ?_
  refine va_putF (D := D) (ci := 7) (v := .ref q2) (ty := .array .int) (C := RX7) (T := TX7) (N := 7) hx hb hts hi7 tyX7 tyX7_ok nmX7 hown hK hP hD hS 0 rfl rfl 2 (by decide) (hts (.fieldLink RX7 13 "GridInverterModel" "aside" "[I") (by decide +kernel)) (fun _ h9 => h9) rfl hin rfl (by decide +kernel) rfl rfl (Nat.le_of_ble_eq_true rfl) dX7_init_19 (fun H locs hP hD hS => ?_)
  have hP : va_P D vwCl [(h0, .inr (7, [.ref q1, .long 0, .ref q2, .null, .null, .null, .int 0])), (q1, .inl (cI, 165, .inl (fun _ => 0))), (q2, .inl (cI, 165, .inl (fun _ => 0)))] H := hP
  have hD : va_D A [(h0, .inr (7, [.ref q1, .long 0, .ref q2, .null, .null, .null, .int 0])), (q1, .inl (cI, 165, .inl (fun _ => 0))), (q2, .inl (cI, 165, .inl (fun _ => 0)))] := hD
  refine lv_aload_n hx hb dX7_init_22 rfl (lv_at hl 0 rfl) ?_
  refine lv_sipush (v := 330) hx hb dX7_init_23 (by decide) ?_
  refine r_newa (atype := .int) hx hb (hts (.arrayClass .int) (by decide +kernel)) (ty := .int) rfl hK hP hD hS hA 0 rfl (a0 := (330, .inl (fun _ => 0))) (N' := 330) (fun _ => by first | rfl | (simp only [vp_cell_i]; rfl) | (simp [vp_cell, arrV])) (by decide) rfl (Nat.le_of_ble_eq_true rfl) (Nat.le_of_ble_eq_true rfl) (Nat.le_of_ble_eq_true rfl) dX7_init_26 (fun q3 H hP hD hS => ?_)
  have hP : va_P D vwCl [(h0, .inr (7, [.ref q1, .long 0, .ref q2, .null, .null, .null, .int 0])), (q1, .inl (cI, 165, .inl (fun _ => 0))), (q2, .inl (cI, 165, .inl (fun _ => 0))), (q3, .inl (cI, 330, .inl (fun _ => 0)))] H := hP
  have hD : va_D A [(h0, .inr (7, [.ref q1, .long 0, .ref q2, .null, .null, .null, .int 0])), (q1, .inl (cI, 165, .inl (fun _ => 0))), (q2, .inl (cI, 165, .inl (fun _ => 0))), (q3, .inl (cI, 330, .inl (fun _ => 0)))] := hD
  refine W.widen (k := 3) (n := 660) (Nat.le_of_ble_eq_true rfl) (Nat.le_of_ble_eq_true rfl) ?_
  refine va_putF (D := D) (ci := 7) (v := .ref q3) (ty := .array .int) (C := RX7) (T := TX7) (N := 7) hx hb hts hi7 tyX7 tyX7_ok nmX7 hown hK hP hD hS 0 rfl rfl 3 (by decide) (hts (.fieldLink RX7 16 "GridInverterModel" "slots" "[I") (by decide +kernel)) (fun _ h9 => h9) rfl hin rfl (by decide +kernel) rfl rfl (Nat.le_of_ble_eq_true rfl) dX7_init_28 (fun H locs hP hD hS => ?_)
  have hP : va_P D vwCl [(h0, .inr (7, [.ref q1, .long 0, .ref q2, .ref q3, .null, .null, .int 0])), (q1, .inl (cI, 165, .inl (fun _ => 0))), (q2, .inl (cI, 165, .inl (fun _ => 0))), (q3, .inl (cI, 330, .inl (fun _ => 0)))] H := hP
  have hD : va_D A [(h0, .inr (7, [.ref q1, .long 0, .ref q2, .ref q3, .null, .null, .int 0])), (q1, .inl (cI, 165, .inl (fun _ => 0))), (q2, .inl (cI, 165, .inl (fun _ => 0))), (q3, .inl (cI, 330, .inl (fun _ => 0)))] := hD
  refine lv_aload_n hx hb dX7_init_31 rfl (lv_at hl 0 rfl) ?_
  refine lv_iconst (v := 2) hx hb dX7_init_32 (by decide) ?_
  refine r_newa (atype := .long) hx hb (hts (.arrayClass .long) (by decide +kernel)) (ty := .long) rfl hK hP hD hS hA 1 rfl (a0 := (2, .inr (.inl (fun _ => 0)))) (N' := 2) (fun _ => by first | rfl | (simp only [vp_cell_i]; rfl) | (simp [vp_cell, arrV])) (by decide) rfl (Nat.le_of_ble_eq_true rfl) (Nat.le_of_ble_eq_true rfl) (Nat.le_of_ble_eq_true rfl) dX7_init_33 (fun q4 H hP hD hS => ?_)
  have hP : va_P D vwCl [(h0, .inr (7, [.ref q1, .long 0, .ref q2, .ref q3, .null, .null, .int 0])), (q1, .inl (cI, 165, .inl (fun _ => 0))), (q2, .inl (cI, 165, .inl (fun _ => 0))), (q3, .inl (cI, 330, .inl (fun _ => 0))), (q4, .inl (cJ, 2, .inr (.inl (fun _ => 0))))] H := hP
  have hD : va_D A [(h0, .inr (7, [.ref q1, .long 0, .ref q2, .ref q3, .null, .null, .int 0])), (q1, .inl (cI, 165, .inl (fun _ => 0))), (q2, .inl (cI, 165, .inl (fun _ => 0))), (q3, .inl (cI, 330, .inl (fun _ => 0))), (q4, .inl (cJ, 2, .inr (.inl (fun _ => 0))))] := hD
  refine W.widen (k := 4) (n := 662) (Nat.le_of_ble_eq_true rfl) (Nat.le_of_ble_eq_true rfl) ?_
  refine va_putF (D := D) (ci := 7) (v := .ref q4) (ty := .array .long) (C := RX7) (T := TX7) (N := 7) hx hb hts hi7 tyX7 tyX7_ok nmX7 hown hK hP hD hS 0 rfl rfl 4 (by decide) (hts (.fieldLink RX7 19 "GridInverterModel" "slotEnergy" "[J") (by decide +kernel)) (fun _ h9 => h9) rfl hin rfl (by decide +kernel) rfl rfl (Nat.le_of_ble_eq_true rfl) dX7_init_35 (fun H locs hP hD hS => ?_)
  have hP : va_P D vwCl [(h0, .inr (7, [.ref q1, .long 0, .ref q2, .ref q3, .ref q4, .null, .int 0])), (q1, .inl (cI, 165, .inl (fun _ => 0))), (q2, .inl (cI, 165, .inl (fun _ => 0))), (q3, .inl (cI, 330, .inl (fun _ => 0))), (q4, .inl (cJ, 2, .inr (.inl (fun _ => 0))))] H := hP
  have hD : va_D A [(h0, .inr (7, [.ref q1, .long 0, .ref q2, .ref q3, .ref q4, .null, .int 0])), (q1, .inl (cI, 165, .inl (fun _ => 0))), (q2, .inl (cI, 165, .inl (fun _ => 0))), (q3, .inl (cI, 330, .inl (fun _ => 0))), (q4, .inl (cJ, 2, .inr (.inl (fun _ => 0))))] := hD
  refine lv_aload_n hx hb dX7_init_38 rfl (lv_at hl 0 rfl) ?_
  refine lv_iconst (v := 2) hx hb dX7_init_39 (by decide) ?_
  refine r_newa (atype := .boolean) hx hb (hts (.arrayClass .boolean) (by decide +kernel)) (ty := .boolean) rfl hK hP hD hS hA 2 rfl (a0 := (2, .inl (fun _ => 0))) (N' := 2) (fun _ => by first | rfl | (simp only [vp_cell_i]; rfl) | (simp [vp_cell, arrV])) (by decide) rfl (Nat.le_of_ble_eq_true rfl) (Nat.le_of_ble_eq_true rfl) (Nat.le_of_ble_eq_true rfl) dX7_init_40 (fun q5 H hP hD hS => ?_)
  have hP : va_P D vwCl [(h0, .inr (7, [.ref q1, .long 0, .ref q2, .ref q3, .ref q4, .null, .int 0])), (q1, .inl (cI, 165, .inl (fun _ => 0))), (q2, .inl (cI, 165, .inl (fun _ => 0))), (q3, .inl (cI, 330, .inl (fun _ => 0))), (q4, .inl (cJ, 2, .inr (.inl (fun _ => 0)))), (q5, .inl (cZ, 2, .inl (fun _ => 0)))] H := hP
  have hD : va_D A [(h0, .inr (7, [.ref q1, .long 0, .ref q2, .ref q3, .ref q4, .null, .int 0])), (q1, .inl (cI, 165, .inl (fun _ => 0))), (q2, .inl (cI, 165, .inl (fun _ => 0))), (q3, .inl (cI, 330, .inl (fun _ => 0))), (q4, .inl (cJ, 2, .inr (.inl (fun _ => 0)))), (q5, .inl (cZ, 2, .inl (fun _ => 0)))] := hD
  refine W.widen (k := 5) (n := 664) (Nat.le_of_ble_eq_true rfl) (Nat.le_of_ble_eq_true rfl) ?_
  refine va_putF (D := D) (ci := 7) (v := .ref q5) (ty := .array .boolean) (C := RX7) (T := TX7) (N := 7) hx hb hts hi7 tyX7 tyX7_ok nmX7 hown hK hP hD hS 0 rfl rfl 5 (by decide) (hts (.fieldLink RX7 23 "GridInverterModel" "isSaved" "[Z") (by decide +kernel)) (fun _ h9 => h9) rfl hin rfl (by decide +kernel) rfl rfl (Nat.le_of_ble_eq_true rfl) dX7_init_42 (fun H locs hP hD hS => ?_)
  have hP : va_P D vwCl [(h0, .inr (7, [.ref q1, .long 0, .ref q2, .ref q3, .ref q4, .ref q5, .int 0])), (q1, .inl (cI, 165, .inl (fun _ => 0))), (q2, .inl (cI, 165, .inl (fun _ => 0))), (q3, .inl (cI, 330, .inl (fun _ => 0))), (q4, .inl (cJ, 2, .inr (.inl (fun _ => 0)))), (q5, .inl (cZ, 2, .inl (fun _ => 0)))] H := hP
  have hD : va_D A [(h0, .inr (7, [.ref q1, .long 0, .ref q2, .ref q3, .ref q4, .ref q5, .int 0])), (q1, .inl (cI, 165, .inl (fun _ => 0))), (q2, .inl (cI, 165, .inl (fun _ => 0))), (q3, .inl (cI, 330, .inl (fun _ => 0))), (q4, .inl (cJ, 2, .inr (.inl (fun _ => 0)))), (q5, .inl (cZ, 2, .inl (fun _ => 0)))] := hD
  refine lv_aload_n hx hb dX7_init_45 rfl (lv_at hl 0 rfl) ?_
  refine va_get (D := D) (ci := 7) (v := .ref q1) (C := RX7) (T := TX7) (N := 7) hx hb hts hi7 hown hK hP 0 rfl rfl 0 (by decide) (hts (.fieldLink RX7 7 "GridInverterModel" "at" "[I") (by decide +kernel)) (fun _ h9 => h9) rfl dX7_init_46 ?_
  refine lv_iconst (v := 1) hx hb dX7_init_49 (by decide) ?_
  refine lv_sipush (v := 230) hx hb dX7_init_50 (by decide) ?_
  refine r_ast hx hb hK hP hD hS 1 0 rfl rfl 1 rfl (Nat.le_of_ble_eq_true rfl) (Nat.le_of_ble_eq_true rfl) dX7_init_53 (fun H locs hP hD hS => ?_)
  have hP : va_P D vwCl [(h0, .inr (7, [.ref q1, .long 0, .ref q2, .ref q3, .ref q4, .ref q5, .int 0])), (q1, .inl (cI, 165, .inl (upd (fun _ => 0) 1 230))), (q2, .inl (cI, 165, .inl (fun _ => 0))), (q3, .inl (cI, 330, .inl (fun _ => 0))), (q4, .inl (cJ, 2, .inr (.inl (fun _ => 0)))), (q5, .inl (cZ, 2, .inl (fun _ => 0)))] H := hP
  have hD : va_D A [(h0, .inr (7, [.ref q1, .long 0, .ref q2, .ref q3, .ref q4, .ref q5, .int 0])), (q1, .inl (cI, 165, .inl (upd (fun _ => 0) 1 230))), (q2, .inl (cI, 165, .inl (fun _ => 0))), (q3, .inl (cI, 330, .inl (fun _ => 0))), (q4, .inl (cJ, 2, .inr (.inl (fun _ => 0)))), (q5, .inl (cZ, 2, .inl (fun _ => 0)))] := hD
  refine lv_aload_n hx hb dX7_init_54 rfl (lv_at hl 0 rfl) ?_
  refine va_get (D := D) (ci := 7) (v := .ref q1) (C := RX7) (T := TX7) (N := 7) hx hb hts hi7 hown hK hP 0 rfl rfl 0 (by decide) (hts (.fieldLink RX7 7 "GridInverterModel" "at" "[I") (by decide +kernel)) (fun _ h9 => h9) rfl dX7_init_55 ?_
  refine lv_iconst (v := 2) hx hb dX7_init_58 (by decide) ?_
  refine lv_ldc hx hb hown (hts (.constant RX7 27 (50000)) (by decide +kernel)) dX7_init_59 ?_
  refine r_ast hx hb hK hP hD hS 1 0 rfl rfl 2 rfl (Nat.le_of_ble_eq_true rfl) (Nat.le_of_ble_eq_true rfl) dX7_init_61 (fun H locs hP hD hS => ?_)
  obtain ⟨x6, ex6⟩ : ∃ zz_, zz_ = (upd (upd (fun _ => 0) 1 230) 2 50000) := ⟨_, rfl⟩
  have hP : va_P D vwCl [(h0, .inr (7, [.ref q1, .long 0, .ref q2, .ref q3, .ref q4, .ref q5, .int 0])), (q1, .inl (cI, 165, .inl x6)), (q2, .inl (cI, 165, .inl (fun _ => 0))), (q3, .inl (cI, 330, .inl (fun _ => 0))), (q4, .inl (cJ, 2, .inr (.inl (fun _ => 0)))), (q5, .inl (cZ, 2, .inl (fun _ => 0)))] H := by rw [ex6]; exact hP
  have hD : va_D A [(h0, .inr (7, [.ref q1, .long 0, .ref q2, .ref q3, .ref q4, .ref q5, .int 0])), (q1, .inl (cI, 165, .inl x6)), (q2, .inl (cI, 165, .inl (fun _ => 0))), (q3, .inl (cI, 330, .inl (fun _ => 0))), (q4, .inl (cJ, 2, .inr (.inl (fun _ => 0)))), (q5, .inl (cZ, 2, .inl (fun _ => 0)))] := by rw [ex6]; exact hD
  refine lv_aload_n hx hb dX7_init_62 rfl (lv_at hl 0 rfl) ?_
  refine va_get (D := D) (ci := 7) (v := .ref q1) (C := RX7) (T := TX7) (N := 7) hx hb hts hi7 hown hK hP 0 rfl rfl 0 (by decide) (hts (.fieldLink RX7 7 "GridInverterModel" "at" "[I") (by decide +kernel)) (fun _ h9 => h9) rfl dX7_init_63 ?_
  refine lv_bipush (v := 10) hx hb dX7_init_66 (by decide) ?_
  refine lv_iconst (v := 1) hx hb dX7_init_68 (by decide) ?_
  refine r_ast hx hb hK hP hD hS 1 0 rfl rfl 10 rfl (Nat.le_of_ble_eq_true rfl) (Nat.le_of_ble_eq_true rfl) dX7_init_69 (fun H locs hP hD hS => ?_)
  have hP : va_P D vwCl [(h0, .inr (7, [.ref q1, .long 0, .ref q2, .ref q3, .ref q4, .ref q5, .int 0])), (q1, .inl (cI, 165, .inl (upd x6 10 1))), (q2, .inl (cI, 165, .inl (fun _ => 0))), (q3, .inl (cI, 330, .inl (fun _ => 0))), (q4, .inl (cJ, 2, .inr (.inl (fun _ => 0)))), (q5, .inl (cZ, 2, .inl (fun _ => 0)))] H := hP
  have hD : va_D A [(h0, .inr (7, [.ref q1, .long 0, .ref q2, .ref q3, .ref q4, .ref q5, .int 0])), (q1, .inl (cI, 165, .inl (upd x6 10 1))), (q2, .inl (cI, 165, .inl (fun _ => 0))), (q3, .inl (cI, 330, .inl (fun _ => 0))), (q4, .inl (cJ, 2, .inr (.inl (fun _ => 0)))), (q5, .inl (cZ, 2, .inl (fun _ => 0)))] := hD
  refine lv_aload_n hx hb dX7_init_70 rfl (lv_at hl 0 rfl) ?_
  refine va_get (D := D) (ci := 7) (v := .ref q1) (C := RX7) (T := TX7) (N := 7) hx hb hts hi7 hown hK hP 0 rfl rfl 0 (by decide) (hts (.fieldLink RX7 7 "GridInverterModel" "at" "[I") (by decide +kernel)) (fun _ h9 => h9) rfl dX7_init_71 ?_
  refine lv_bipush (v := 11) hx hb dX7_init_74 (by decide) ?_
  refine lv_sipush (v := 230) hx hb dX7_init_76 (by decide) ?_
  refine r_ast hx hb hK hP hD hS 1 0 rfl rfl 11 rfl (Nat.le_of_ble_eq_true rfl) (Nat.le_of_ble_eq_true rfl) dX7_init_79 (fun H locs hP hD hS => ?_)
  have hP : va_P D vwCl [(h0, .inr (7, [.ref q1, .long 0, .ref q2, .ref q3, .ref q4, .ref q5, .int 0])), (q1, .inl (cI, 165, .inl (upd (upd x6 10 1) 11 230))), (q2, .inl (cI, 165, .inl (fun _ => 0))), (q3, .inl (cI, 330, .inl (fun _ => 0))), (q4, .inl (cJ, 2, .inr (.inl (fun _ => 0)))), (q5, .inl (cZ, 2, .inl (fun _ => 0)))] H := hP
  have hD : va_D A [(h0, .inr (7, [.ref q1, .long 0, .ref q2, .ref q3, .ref q4, .ref q5, .int 0])), (q1, .inl (cI, 165, .inl (upd (upd x6 10 1) 11 230))), (q2, .inl (cI, 165, .inl (fun _ => 0))), (q3, .inl (cI, 330, .inl (fun _ => 0))), (q4, .inl (cJ, 2, .inr (.inl (fun _ => 0)))), (q5, .inl (cZ, 2, .inl (fun _ => 0)))] := hD
  refine lv_aload_n hx hb dX7_init_80 rfl (lv_at hl 0 rfl) ?_
  refine va_get (D := D) (ci := 7) (v := .ref q1) (C := RX7) (T := TX7) (N := 7) hx hb hts hi7 hown hK hP 0 rfl rfl 0 (by decide) (hts (.fieldLink RX7 7 "GridInverterModel" "at" "[I") (by decide +kernel)) (fun _ h9 => h9) rfl dX7_init_81 ?_
  refine lv_bipush (v := 12) hx hb dX7_init_84 (by decide) ?_
  refine lv_ldc hx hb hown (hts (.constant RX7 27 (50000)) (by decide +kernel)) dX7_init_86 ?_
  refine r_ast hx hb hK hP hD hS 1 0 rfl rfl 12 rfl (Nat.le_of_ble_eq_true rfl) (Nat.le_of_ble_eq_true rfl) dX7_init_88 (fun H locs hP hD hS => ?_)
  obtain ⟨x7, ex7⟩ : ∃ zz_, zz_ = (upd (upd (upd x6 10 1) 11 230) 12 50000) := ⟨_, rfl⟩
  have hP : va_P D vwCl [(h0, .inr (7, [.ref q1, .long 0, .ref q2, .ref q3, .ref q4, .ref q5, .int 0])), (q1, .inl (cI, 165, .inl x7)), (q2, .inl (cI, 165, .inl (fun _ => 0))), (q3, .inl (cI, 330, .inl (fun _ => 0))), (q4, .inl (cJ, 2, .inr (.inl (fun _ => 0)))), (q5, .inl (cZ, 2, .inl (fun _ => 0)))] H := by rw [ex7]; exact hP
  have hD : va_D A [(h0, .inr (7, [.ref q1, .long 0, .ref q2, .ref q3, .ref q4, .ref q5, .int 0])), (q1, .inl (cI, 165, .inl x7)), (q2, .inl (cI, 165, .inl (fun _ => 0))), (q3, .inl (cI, 330, .inl (fun _ => 0))), (q4, .inl (cJ, 2, .inr (.inl (fun _ => 0)))), (q5, .inl (cZ, 2, .inl (fun _ => 0)))] := by rw [ex7]; exact hD
  refine lv_aload_n hx hb dX7_init_89 rfl (lv_at hl 0 rfl) ?_
  refine va_get (D := D) (ci := 7) (v := .ref q1) (C := RX7) (T := TX7) (N := 7) hx hb hts hi7 hown hK hP 0 rfl rfl 0 (by decide) (hts (.fieldLink RX7 7 "GridInverterModel" "at" "[I") (by decide +kernel)) (fun _ h9 => h9) rfl dX7_init_90 ?_
  refine lv_bipush (v := 13) hx hb dX7_init_93 (by decide) ?_
  refine lv_sipush (v := 1000) hx hb dX7_init_95 (by decide) ?_
  refine r_ast hx hb hK hP hD hS 1 0 rfl rfl 13 rfl (Nat.le_of_ble_eq_true rfl) (Nat.le_of_ble_eq_true rfl) dX7_init_98 (fun H locs hP hD hS => ?_)
  have hP : va_P D vwCl [(h0, .inr (7, [.ref q1, .long 0, .ref q2, .ref q3, .ref q4, .ref q5, .int 0])), (q1, .inl (cI, 165, .inl (upd x7 13 1000))), (q2, .inl (cI, 165, .inl (fun _ => 0))), (q3, .inl (cI, 330, .inl (fun _ => 0))), (q4, .inl (cJ, 2, .inr (.inl (fun _ => 0)))), (q5, .inl (cZ, 2, .inl (fun _ => 0)))] H := hP
  have hD : va_D A [(h0, .inr (7, [.ref q1, .long 0, .ref q2, .ref q3, .ref q4, .ref q5, .int 0])), (q1, .inl (cI, 165, .inl (upd x7 13 1000))), (q2, .inl (cI, 165, .inl (fun _ => 0))), (q3, .inl (cI, 330, .inl (fun _ => 0))), (q4, .inl (cJ, 2, .inr (.inl (fun _ => 0)))), (q5, .inl (cZ, 2, .inl (fun _ => 0)))] := hD
  refine lv_aload_n hx hb dX7_init_99 rfl (lv_at hl 0 rfl) ?_
  refine va_get (D := D) (ci := 7) (v := .ref q1) (C := RX7) (T := TX7) (N := 7) hx hb hts hi7 hown hK hP 0 rfl rfl 0 (by decide) (hts (.fieldLink RX7 7 "GridInverterModel" "at" "[I") (by decide +kernel)) (fun _ h9 => h9) rfl dX7_init_100 ?_
  refine lv_bipush (v := 14) hx hb dX7_init_103 (by decide) ?_
  refine lv_ldc hx hb hown (hts (.constant RX7 27 (50000)) (by decide +kernel)) dX7_init_105 ?_
  refine r_ast hx hb hK hP hD hS 1 0 rfl rfl 14 rfl (Nat.le_of_ble_eq_true rfl) (Nat.le_of_ble_eq_true rfl) dX7_init_107 (fun H locs hP hD hS => ?_)
  obtain ⟨x8, ex8⟩ : ∃ zz_, zz_ = (upd (upd x7 13 1000) 14 50000) := ⟨_, rfl⟩
  have hP : va_P D vwCl [(h0, .inr (7, [.ref q1, .long 0, .ref q2, .ref q3, .ref q4, .ref q5, .int 0])), (q1, .inl (cI, 165, .inl x8)), (q2, .inl (cI, 165, .inl (fun _ => 0))), (q3, .inl (cI, 330, .inl (fun _ => 0))), (q4, .inl (cJ, 2, .inr (.inl (fun _ => 0)))), (q5, .inl (cZ, 2, .inl (fun _ => 0)))] H := by rw [ex8]; exact hP
  have hD : va_D A [(h0, .inr (7, [.ref q1, .long 0, .ref q2, .ref q3, .ref q4, .ref q5, .int 0])), (q1, .inl (cI, 165, .inl x8)), (q2, .inl (cI, 165, .inl (fun _ => 0))), (q3, .inl (cI, 330, .inl (fun _ => 0))), (q4, .inl (cJ, 2, .inr (.inl (fun _ => 0)))), (q5, .inl (cZ, 2, .inl (fun _ => 0)))] := by rw [ex8]; exact hD
  refine lv_aload_n hx hb dX7_init_108 rfl (lv_at hl 0 rfl) ?_
  refine va_get (D := D) (ci := 7) (v := .ref q1) (C := RX7) (T := TX7) (N := 7) hx hb hts hi7 hown hK hP 0 rfl rfl 0 (by decide) (hts (.fieldLink RX7 7 "GridInverterModel" "at" "[I") (by decide +kernel)) (fun _ h9 => h9) rfl dX7_init_109 ?_
  refine lv_bipush (v := 15) hx hb dX7_init_112 (by decide) ?_
  refine lv_bipush (v := 10) hx hb dX7_init_114 (by decide) ?_
  refine r_ast hx hb hK hP hD hS 1 0 rfl rfl 15 rfl (Nat.le_of_ble_eq_true rfl) (Nat.le_of_ble_eq_true rfl) dX7_init_116 (fun H locs hP hD hS => ?_)
  have hP : va_P D vwCl [(h0, .inr (7, [.ref q1, .long 0, .ref q2, .ref q3, .ref q4, .ref q5, .int 0])), (q1, .inl (cI, 165, .inl (upd x8 15 10))), (q2, .inl (cI, 165, .inl (fun _ => 0))), (q3, .inl (cI, 330, .inl (fun _ => 0))), (q4, .inl (cJ, 2, .inr (.inl (fun _ => 0)))), (q5, .inl (cZ, 2, .inl (fun _ => 0)))] H := hP
  have hD : va_D A [(h0, .inr (7, [.ref q1, .long 0, .ref q2, .ref q3, .ref q4, .ref q5, .int 0])), (q1, .inl (cI, 165, .inl (upd x8 15 10))), (q2, .inl (cI, 165, .inl (fun _ => 0))), (q3, .inl (cI, 330, .inl (fun _ => 0))), (q4, .inl (cJ, 2, .inr (.inl (fun _ => 0)))), (q5, .inl (cZ, 2, .inl (fun _ => 0)))] := hD
  refine lv_aload_n hx hb dX7_init_117 rfl (lv_at hl 0 rfl) ?_
  refine va_get (D := D) (ci := 7) (v := .ref q1) (C := RX7) (T := TX7) (N := 7) hx hb hts hi7 hown hK hP 0 rfl rfl 0 (by decide) (hts (.fieldLink RX7 7 "GridInverterModel" "at" "[I") (by decide +kernel)) (fun _ h9 => h9) rfl dX7_init_118 ?_
  refine lv_iconst (v := 5) hx hb dX7_init_121 (by decide) ?_
  refine lv_ldc hx hb hown (hts (.constant RX7 27 (50000)) (by decide +kernel)) dX7_init_122 ?_
  refine r_ast hx hb hK hP hD hS 1 0 rfl rfl 5 rfl (Nat.le_of_ble_eq_true rfl) (Nat.le_of_ble_eq_true rfl) dX7_init_124 (fun H locs hP hD hS => ?_)
  obtain ⟨x9, ex9⟩ : ∃ zz_, zz_ = (upd (upd x8 15 10) 5 50000) := ⟨_, rfl⟩
  have hP : va_P D vwCl [(h0, .inr (7, [.ref q1, .long 0, .ref q2, .ref q3, .ref q4, .ref q5, .int 0])), (q1, .inl (cI, 165, .inl x9)), (q2, .inl (cI, 165, .inl (fun _ => 0))), (q3, .inl (cI, 330, .inl (fun _ => 0))), (q4, .inl (cJ, 2, .inr (.inl (fun _ => 0)))), (q5, .inl (cZ, 2, .inl (fun _ => 0)))] H := by rw [ex9]; exact hP
  have hD : va_D A [(h0, .inr (7, [.ref q1, .long 0, .ref q2, .ref q3, .ref q4, .ref q5, .int 0])), (q1, .inl (cI, 165, .inl x9)), (q2, .inl (cI, 165, .inl (fun _ => 0))), (q3, .inl (cI, 330, .inl (fun _ => 0))), (q4, .inl (cJ, 2, .inr (.inl (fun _ => 0)))), (q5, .inl (cZ, 2, .inl (fun _ => 0)))] := by rw [ex9]; exact hD
  refine lv_aload_n hx hb dX7_init_125 rfl (lv_at hl 0 rfl) ?_
  refine va_get (D := D) (ci := 7) (v := .ref q1) (C := RX7) (T := TX7) (N := 7) hx hb hts hi7 hown hK hP 0 rfl rfl 0 (by decide) (hts (.fieldLink RX7 7 "GridInverterModel" "at" "[I") (by decide +kernel)) (fun _ h9 => h9) rfl dX7_init_126 ?_
  refine lv_bipush (v := 16) hx hb dX7_init_129 (by decide) ?_
  refine lv_sipush (v := 200) hx hb dX7_init_131 (by decide) ?_
  refine r_ast hx hb hK hP hD hS 1 0 rfl rfl 16 rfl (Nat.le_of_ble_eq_true rfl) (Nat.le_of_ble_eq_true rfl) dX7_init_134 (fun H locs hP hD hS => ?_)
  have hP : va_P D vwCl [(h0, .inr (7, [.ref q1, .long 0, .ref q2, .ref q3, .ref q4, .ref q5, .int 0])), (q1, .inl (cI, 165, .inl (upd x9 16 200))), (q2, .inl (cI, 165, .inl (fun _ => 0))), (q3, .inl (cI, 330, .inl (fun _ => 0))), (q4, .inl (cJ, 2, .inr (.inl (fun _ => 0)))), (q5, .inl (cZ, 2, .inl (fun _ => 0)))] H := hP
  have hD : va_D A [(h0, .inr (7, [.ref q1, .long 0, .ref q2, .ref q3, .ref q4, .ref q5, .int 0])), (q1, .inl (cI, 165, .inl (upd x9 16 200))), (q2, .inl (cI, 165, .inl (fun _ => 0))), (q3, .inl (cI, 330, .inl (fun _ => 0))), (q4, .inl (cJ, 2, .inr (.inl (fun _ => 0)))), (q5, .inl (cZ, 2, .inl (fun _ => 0)))] := hD
  refine lv_aload_n hx hb dX7_init_135 rfl (lv_at hl 0 rfl) ?_
  refine va_get (D := D) (ci := 7) (v := .ref q1) (C := RX7) (T := TX7) (N := 7) hx hb hts hi7 hown hK hP 0 rfl rfl 0 (by decide) (hts (.fieldLink RX7 7 "GridInverterModel" "at" "[I") (by decide +kernel)) (fun _ h9 => h9) rfl dX7_init_136 ?_
  refine lv_bipush (v := 17) hx hb dX7_init_139 (by decide) ?_
  refine lv_bipush (v := 20) hx hb dX7_init_141 (by decide) ?_
  refine r_ast hx hb hK hP hD hS 1 0 rfl rfl 17 rfl (Nat.le_of_ble_eq_true rfl) (Nat.le_of_ble_eq_true rfl) dX7_init_143 (fun H locs hP hD hS => ?_)
  obtain ⟨x10, ex10⟩ : ∃ zz_, zz_ = (upd (upd x9 16 200) 17 20) := ⟨_, rfl⟩
  have hP : va_P D vwCl [(h0, .inr (7, [.ref q1, .long 0, .ref q2, .ref q3, .ref q4, .ref q5, .int 0])), (q1, .inl (cI, 165, .inl x10)), (q2, .inl (cI, 165, .inl (fun _ => 0))), (q3, .inl (cI, 330, .inl (fun _ => 0))), (q4, .inl (cJ, 2, .inr (.inl (fun _ => 0)))), (q5, .inl (cZ, 2, .inl (fun _ => 0)))] H := by rw [ex10]; exact hP
  have hD : va_D A [(h0, .inr (7, [.ref q1, .long 0, .ref q2, .ref q3, .ref q4, .ref q5, .int 0])), (q1, .inl (cI, 165, .inl x10)), (q2, .inl (cI, 165, .inl (fun _ => 0))), (q3, .inl (cI, 330, .inl (fun _ => 0))), (q4, .inl (cJ, 2, .inr (.inl (fun _ => 0)))), (q5, .inl (cZ, 2, .inl (fun _ => 0)))] := by rw [ex10]; exact hD
  refine lv_aload_n hx hb dX7_init_144 rfl (lv_at hl 0 rfl) ?_
  refine va_get (D := D) (ci := 7) (v := .ref q1) (C := RX7) (T := TX7) (N := 7) hx hb hts hi7 hown hK hP 0 rfl rfl 0 (by decide) (hts (.fieldLink RX7 7 "GridInverterModel" "at" "[I") (by decide +kernel)) (fun _ h9 => h9) rfl dX7_init_145 ?_
  refine lv_bipush (v := 18) hx hb dX7_init_148 (by decide) ?_
  refine lv_sipush (v := 5000) hx hb dX7_init_150 (by decide) ?_
  refine r_ast hx hb hK hP hD hS 1 0 rfl rfl 18 rfl (Nat.le_of_ble_eq_true rfl) (Nat.le_of_ble_eq_true rfl) dX7_init_153 (fun H locs hP hD hS => ?_)
  have hP : va_P D vwCl [(h0, .inr (7, [.ref q1, .long 0, .ref q2, .ref q3, .ref q4, .ref q5, .int 0])), (q1, .inl (cI, 165, .inl (upd x10 18 5000))), (q2, .inl (cI, 165, .inl (fun _ => 0))), (q3, .inl (cI, 330, .inl (fun _ => 0))), (q4, .inl (cJ, 2, .inr (.inl (fun _ => 0)))), (q5, .inl (cZ, 2, .inl (fun _ => 0)))] H := hP
  have hD : va_D A [(h0, .inr (7, [.ref q1, .long 0, .ref q2, .ref q3, .ref q4, .ref q5, .int 0])), (q1, .inl (cI, 165, .inl (upd x10 18 5000))), (q2, .inl (cI, 165, .inl (fun _ => 0))), (q3, .inl (cI, 330, .inl (fun _ => 0))), (q4, .inl (cJ, 2, .inr (.inl (fun _ => 0)))), (q5, .inl (cZ, 2, .inl (fun _ => 0)))] := hD
  refine lv_aload_n hx hb dX7_init_154 rfl (lv_at hl 0 rfl) ?_
  refine va_get (D := D) (ci := 7) (v := .ref q1) (C := RX7) (T := TX7) (N := 7) hx hb hts hi7 hown hK hP 0 rfl rfl 0 (by decide) (hts (.fieldLink RX7 7 "GridInverterModel" "at" "[I") (by decide +kernel)) (fun _ h9 => h9) rfl dX7_init_155 ?_
  refine lv_bipush (v := 19) hx hb dX7_init_158 (by decide) ?_
  refine lv_bipush (v := 100) hx hb dX7_init_160 (by decide) ?_
  refine r_ast hx hb hK hP hD hS 1 0 rfl rfl 19 rfl (Nat.le_of_ble_eq_true rfl) (Nat.le_of_ble_eq_true rfl) dX7_init_162 (fun H locs hP hD hS => ?_)
  obtain ⟨x11, ex11⟩ : ∃ zz_, zz_ = (upd (upd x10 18 5000) 19 100) := ⟨_, rfl⟩
  have hP : va_P D vwCl [(h0, .inr (7, [.ref q1, .long 0, .ref q2, .ref q3, .ref q4, .ref q5, .int 0])), (q1, .inl (cI, 165, .inl x11)), (q2, .inl (cI, 165, .inl (fun _ => 0))), (q3, .inl (cI, 330, .inl (fun _ => 0))), (q4, .inl (cJ, 2, .inr (.inl (fun _ => 0)))), (q5, .inl (cZ, 2, .inl (fun _ => 0)))] H := by rw [ex11]; exact hP
  have hD : va_D A [(h0, .inr (7, [.ref q1, .long 0, .ref q2, .ref q3, .ref q4, .ref q5, .int 0])), (q1, .inl (cI, 165, .inl x11)), (q2, .inl (cI, 165, .inl (fun _ => 0))), (q3, .inl (cI, 330, .inl (fun _ => 0))), (q4, .inl (cJ, 2, .inr (.inl (fun _ => 0)))), (q5, .inl (cZ, 2, .inl (fun _ => 0)))] := by rw [ex11]; exact hD
  refine lv_aload_n hx hb dX7_init_163 rfl (lv_at hl 0 rfl) ?_
  refine va_get (D := D) (ci := 7) (v := .ref q1) (C := RX7) (T := TX7) (N := 7) hx hb hts hi7 hown hK hP 0 rfl rfl 0 (by decide) (hts (.fieldLink RX7 7 "GridInverterModel" "at" "[I") (by decide +kernel)) (fun _ h9 => h9) rfl dX7_init_164 ?_
  refine lv_bipush (v := 21) hx hb dX7_init_167 (by decide) ?_
  refine lv_sipush (v := 1000) hx hb dX7_init_169 (by decide) ?_
  refine r_ast hx hb hK hP hD hS 1 0 rfl rfl 21 rfl (Nat.le_of_ble_eq_true rfl) (Nat.le_of_ble_eq_true rfl) dX7_init_172 (fun H locs hP hD hS => ?_)
  have hP : va_P D vwCl [(h0, .inr (7, [.ref q1, .long 0, .ref q2, .ref q3, .ref q4, .ref q5, .int 0])), (q1, .inl (cI, 165, .inl (upd x11 21 1000))), (q2, .inl (cI, 165, .inl (fun _ => 0))), (q3, .inl (cI, 330, .inl (fun _ => 0))), (q4, .inl (cJ, 2, .inr (.inl (fun _ => 0)))), (q5, .inl (cZ, 2, .inl (fun _ => 0)))] H := hP
  have hD : va_D A [(h0, .inr (7, [.ref q1, .long 0, .ref q2, .ref q3, .ref q4, .ref q5, .int 0])), (q1, .inl (cI, 165, .inl (upd x11 21 1000))), (q2, .inl (cI, 165, .inl (fun _ => 0))), (q3, .inl (cI, 330, .inl (fun _ => 0))), (q4, .inl (cJ, 2, .inr (.inl (fun _ => 0)))), (q5, .inl (cZ, 2, .inl (fun _ => 0)))] := hD
  refine lv_aload_n hx hb dX7_init_173 rfl (lv_at hl 0 rfl) ?_
  refine va_get (D := D) (ci := 7) (v := .ref q1) (C := RX7) (T := TX7) (N := 7) hx hb hts hi7 hown hK hP 0 rfl rfl 0 (by decide) (hts (.fieldLink RX7 7 "GridInverterModel" "at" "[I") (by decide +kernel)) (fun _ h9 => h9) rfl dX7_init_174 ?_
  refine lv_bipush (v := 22) hx hb dX7_init_177 (by decide) ?_
  refine lv_sipush (v := 3000) hx hb dX7_init_179 (by decide) ?_
  refine r_ast hx hb hK hP hD hS 1 0 rfl rfl 22 rfl (Nat.le_of_ble_eq_true rfl) (Nat.le_of_ble_eq_true rfl) dX7_init_182 (fun H locs hP hD hS => ?_)
  obtain ⟨x12, ex12⟩ : ∃ zz_, zz_ = (upd (upd x11 21 1000) 22 3000) := ⟨_, rfl⟩
  have hP : va_P D vwCl [(h0, .inr (7, [.ref q1, .long 0, .ref q2, .ref q3, .ref q4, .ref q5, .int 0])), (q1, .inl (cI, 165, .inl x12)), (q2, .inl (cI, 165, .inl (fun _ => 0))), (q3, .inl (cI, 330, .inl (fun _ => 0))), (q4, .inl (cJ, 2, .inr (.inl (fun _ => 0)))), (q5, .inl (cZ, 2, .inl (fun _ => 0)))] H := by rw [ex12]; exact hP
  have hD : va_D A [(h0, .inr (7, [.ref q1, .long 0, .ref q2, .ref q3, .ref q4, .ref q5, .int 0])), (q1, .inl (cI, 165, .inl x12)), (q2, .inl (cI, 165, .inl (fun _ => 0))), (q3, .inl (cI, 330, .inl (fun _ => 0))), (q4, .inl (cJ, 2, .inr (.inl (fun _ => 0)))), (q5, .inl (cZ, 2, .inl (fun _ => 0)))] := by rw [ex12]; exact hD
  refine lv_aload_n hx hb dX7_init_183 rfl (lv_at hl 0 rfl) ?_
  refine va_get (D := D) (ci := 7) (v := .ref q1) (C := RX7) (T := TX7) (N := 7) hx hb hts hi7 hown hK hP 0 rfl rfl 0 (by decide) (hts (.fieldLink RX7 7 "GridInverterModel" "at" "[I") (by decide +kernel)) (fun _ h9 => h9) rfl dX7_init_184 ?_
  refine lv_bipush (v := 23) hx hb dX7_init_187 (by decide) ?_
  refine lv_bipush (v := 10) hx hb dX7_init_189 (by decide) ?_
  refine r_ast hx hb hK hP hD hS 1 0 rfl rfl 23 rfl (Nat.le_of_ble_eq_true rfl) (Nat.le_of_ble_eq_true rfl) dX7_init_191 (fun H locs hP hD hS => ?_)
  have hP : va_P D vwCl [(h0, .inr (7, [.ref q1, .long 0, .ref q2, .ref q3, .ref q4, .ref q5, .int 0])), (q1, .inl (cI, 165, .inl (upd x12 23 10))), (q2, .inl (cI, 165, .inl (fun _ => 0))), (q3, .inl (cI, 330, .inl (fun _ => 0))), (q4, .inl (cJ, 2, .inr (.inl (fun _ => 0)))), (q5, .inl (cZ, 2, .inl (fun _ => 0)))] H := hP
  have hD : va_D A [(h0, .inr (7, [.ref q1, .long 0, .ref q2, .ref q3, .ref q4, .ref q5, .int 0])), (q1, .inl (cI, 165, .inl (upd x12 23 10))), (q2, .inl (cI, 165, .inl (fun _ => 0))), (q3, .inl (cI, 330, .inl (fun _ => 0))), (q4, .inl (cJ, 2, .inr (.inl (fun _ => 0)))), (q5, .inl (cZ, 2, .inl (fun _ => 0)))] := hD
  refine lv_aload_n hx hb dX7_init_192 rfl (lv_at hl 0 rfl) ?_
  refine va_get (D := D) (ci := 7) (v := .ref q1) (C := RX7) (T := TX7) (N := 7) hx hb hts hi7 hown hK hP 0 rfl rfl 0 (by decide) (hts (.fieldLink RX7 7 "GridInverterModel" "at" "[I") (by decide +kernel)) (fun _ h9 => h9) rfl dX7_init_193 ?_
  refine lv_bipush (v := 24) hx hb dX7_init_196 (by decide) ?_
  refine lv_sipush (v := 207) hx hb dX7_init_198 (by decide) ?_
  refine r_ast hx hb hK hP hD hS 1 0 rfl rfl 24 rfl (Nat.le_of_ble_eq_true rfl) (Nat.le_of_ble_eq_true rfl) dX7_init_201 (fun H locs hP hD hS => ?_)
  obtain ⟨x13, ex13⟩ : ∃ zz_, zz_ = (upd (upd x12 23 10) 24 207) := ⟨_, rfl⟩
  have hP : va_P D vwCl [(h0, .inr (7, [.ref q1, .long 0, .ref q2, .ref q3, .ref q4, .ref q5, .int 0])), (q1, .inl (cI, 165, .inl x13)), (q2, .inl (cI, 165, .inl (fun _ => 0))), (q3, .inl (cI, 330, .inl (fun _ => 0))), (q4, .inl (cJ, 2, .inr (.inl (fun _ => 0)))), (q5, .inl (cZ, 2, .inl (fun _ => 0)))] H := by rw [ex13]; exact hP
  have hD : va_D A [(h0, .inr (7, [.ref q1, .long 0, .ref q2, .ref q3, .ref q4, .ref q5, .int 0])), (q1, .inl (cI, 165, .inl x13)), (q2, .inl (cI, 165, .inl (fun _ => 0))), (q3, .inl (cI, 330, .inl (fun _ => 0))), (q4, .inl (cJ, 2, .inr (.inl (fun _ => 0)))), (q5, .inl (cZ, 2, .inl (fun _ => 0)))] := by rw [ex13]; exact hD
  refine lv_aload_n hx hb dX7_init_202 rfl (lv_at hl 0 rfl) ?_
  refine va_get (D := D) (ci := 7) (v := .ref q1) (C := RX7) (T := TX7) (N := 7) hx hb hts hi7 hown hK hP 0 rfl rfl 0 (by decide) (hts (.fieldLink RX7 7 "GridInverterModel" "at" "[I") (by decide +kernel)) (fun _ h9 => h9) rfl dX7_init_203 ?_
  refine lv_bipush (v := 25) hx hb dX7_init_206 (by decide) ?_
  refine lv_sipush (v := 253) hx hb dX7_init_208 (by decide) ?_
  refine r_ast hx hb hK hP hD hS 1 0 rfl rfl 25 rfl (Nat.le_of_ble_eq_true rfl) (Nat.le_of_ble_eq_true rfl) dX7_init_211 (fun H locs hP hD hS => ?_)
  have hP : va_P D vwCl [(h0, .inr (7, [.ref q1, .long 0, .ref q2, .ref q3, .ref q4, .ref q5, .int 0])), (q1, .inl (cI, 165, .inl (upd x13 25 253))), (q2, .inl (cI, 165, .inl (fun _ => 0))), (q3, .inl (cI, 330, .inl (fun _ => 0))), (q4, .inl (cJ, 2, .inr (.inl (fun _ => 0)))), (q5, .inl (cZ, 2, .inl (fun _ => 0)))] H := hP
  have hD : va_D A [(h0, .inr (7, [.ref q1, .long 0, .ref q2, .ref q3, .ref q4, .ref q5, .int 0])), (q1, .inl (cI, 165, .inl (upd x13 25 253))), (q2, .inl (cI, 165, .inl (fun _ => 0))), (q3, .inl (cI, 330, .inl (fun _ => 0))), (q4, .inl (cJ, 2, .inr (.inl (fun _ => 0)))), (q5, .inl (cZ, 2, .inl (fun _ => 0)))] := hD
  refine lv_aload_n hx hb dX7_init_212 rfl (lv_at hl 0 rfl) ?_
  refine va_get (D := D) (ci := 7) (v := .ref q1) (C := RX7) (T := TX7) (N := 7) hx hb hts hi7 hown hK hP 0 rfl rfl 0 (by decide) (hts (.fieldLink RX7 7 "GridInverterModel" "at" "[I") (by decide +kernel)) (fun _ h9 => h9) rfl dX7_init_213 ?_
  refine lv_bipush (v := 26) hx hb dX7_init_216 (by decide) ?_
  refine lv_ldc hx hb hown (hts (.constant RX7 28 (49000)) (by decide +kernel)) dX7_init_218 ?_
  refine r_ast hx hb hK hP hD hS 1 0 rfl rfl 26 rfl (Nat.le_of_ble_eq_true rfl) (Nat.le_of_ble_eq_true rfl) dX7_init_220 (fun H locs hP hD hS => ?_)
  obtain ⟨x14, ex14⟩ : ∃ zz_, zz_ = (upd (upd x13 25 253) 26 49000) := ⟨_, rfl⟩
  have hP : va_P D vwCl [(h0, .inr (7, [.ref q1, .long 0, .ref q2, .ref q3, .ref q4, .ref q5, .int 0])), (q1, .inl (cI, 165, .inl x14)), (q2, .inl (cI, 165, .inl (fun _ => 0))), (q3, .inl (cI, 330, .inl (fun _ => 0))), (q4, .inl (cJ, 2, .inr (.inl (fun _ => 0)))), (q5, .inl (cZ, 2, .inl (fun _ => 0)))] H := by rw [ex14]; exact hP
  have hD : va_D A [(h0, .inr (7, [.ref q1, .long 0, .ref q2, .ref q3, .ref q4, .ref q5, .int 0])), (q1, .inl (cI, 165, .inl x14)), (q2, .inl (cI, 165, .inl (fun _ => 0))), (q3, .inl (cI, 330, .inl (fun _ => 0))), (q4, .inl (cJ, 2, .inr (.inl (fun _ => 0)))), (q5, .inl (cZ, 2, .inl (fun _ => 0)))] := by rw [ex14]; exact hD
  refine lv_aload_n hx hb dX7_init_221 rfl (lv_at hl 0 rfl) ?_
  refine va_get (D := D) (ci := 7) (v := .ref q1) (C := RX7) (T := TX7) (N := 7) hx hb hts hi7 hown hK hP 0 rfl rfl 0 (by decide) (hts (.fieldLink RX7 7 "GridInverterModel" "at" "[I") (by decide +kernel)) (fun _ h9 => h9) rfl dX7_init_222 ?_
  refine lv_bipush (v := 27) hx hb dX7_init_225 (by decide) ?_
  refine lv_ldc hx hb hown (hts (.constant RX7 29 (51000)) (by decide +kernel)) dX7_init_227 ?_
  refine r_ast hx hb hK hP hD hS 1 0 rfl rfl 27 rfl (Nat.le_of_ble_eq_true rfl) (Nat.le_of_ble_eq_true rfl) dX7_init_229 (fun H locs hP hD hS => ?_)
  have hP : va_P D vwCl [(h0, .inr (7, [.ref q1, .long 0, .ref q2, .ref q3, .ref q4, .ref q5, .int 0])), (q1, .inl (cI, 165, .inl (upd x14 27 51000))), (q2, .inl (cI, 165, .inl (fun _ => 0))), (q3, .inl (cI, 330, .inl (fun _ => 0))), (q4, .inl (cJ, 2, .inr (.inl (fun _ => 0)))), (q5, .inl (cZ, 2, .inl (fun _ => 0)))] H := hP
  have hD : va_D A [(h0, .inr (7, [.ref q1, .long 0, .ref q2, .ref q3, .ref q4, .ref q5, .int 0])), (q1, .inl (cI, 165, .inl (upd x14 27 51000))), (q2, .inl (cI, 165, .inl (fun _ => 0))), (q3, .inl (cI, 330, .inl (fun _ => 0))), (q4, .inl (cJ, 2, .inr (.inl (fun _ => 0)))), (q5, .inl (cZ, 2, .inl (fun _ => 0)))] := hD
  refine lv_iconst (v := 0) hx hb dX7_init_230 (by decide) ?_
  refine lv_istore_n (lv' := [(1, .int 0), (0, .ref h0)]) hx hb dX7_init_231 rfl hl (by decide) rfl (fun ls hl => ?_)
  have L232 : ∀ (n i : Nat) (H : Heap) (locs : List Loc) (ls : Array Slot), i ≤ 20 → 20 + 1 ≤ i + n → va_P D vwCl [(h0, .inr (7, [.ref q1, .long 0, .ref q2, .ref q3, .ref q4, .ref q5, .int 0])), (q1, .inl (cI, 165, .inl (fillB (upd x14 27 51000) 33 50000 i))), (q2, .inl (cI, 165, .inl (fun _ => 0))), (q3, .inl (cI, 330, .inl (fun _ => 0))), (q4, .inl (cJ, 2, .inr (.inl (fun _ => 0)))), (q5, .inl (cZ, 2, .inl (fun _ => 0)))] H → va_D A [(h0, .inr (7, [.ref q1, .long 0, .ref q2, .ref q3, .ref q4, .ref q5, .int 0])), (q1, .inl (cI, 165, .inl (fillB (upd x14 27 51000) 33 50000 i))), (q2, .inl (cI, 165, .inl (fun _ => 0))), (q3, .inl (cI, 330, .inl (fun _ => 0))), (q4, .inl (cJ, 2, .inr (.inl (fun _ => 0)))), (q5, .inl (cZ, 2, .inl (fun _ => 0)))] → va_S A s.heap H locs → lv_has ls 2 [(0, .ref h0), (1, .int (nI i))] → W p l e ({ frames := 1, cells := 5, slots := 664, locals := 20 } : Room) s m args below meth c H locs 5 664 Q (F0 m 232 ls []) := by
    intro n
    induction n with
    | zero => intro i H locs ls hi hin; exact absurd hin (by omega)
    | succ n ih =>
      intro i H locs ls hi hin hP hD hS hl
      refine lv_iload_n hx hb dX7_init_232 rfl (lv_at hl 1 rfl) ?_
      refine lv_bipush (v := 20) hx hb dX7_init_233 (by decide) ?_
      refine lv_icmp_ge (tgt := 255) hx hb dX7_init_235 (by decide) (fun c15 => ?_) (fun c15 => ?_)
      · have hiN : 20 = i := Nat.le_antisymm ((gd_ex (N := 20) rfl (Nat.le_of_ble_eq_true rfl) hi c15)) hi
        subst hiN
        have hP : va_P D vwCl [(h0, .inr (7, [.ref q1, .long 0, .ref q2, .ref q3, .ref q4, .ref q5, .int 0])), (q1, .inl (cI, 165, .inl (fillB (upd x14 27 51000) 33 50000 20))), (q2, .inl (cI, 165, .inl (fun _ => 0))), (q3, .inl (cI, 330, .inl (fun _ => 0))), (q4, .inl (cJ, 2, .inr (.inl (fun _ => 0)))), (q5, .inl (cZ, 2, .inl (fun _ => 0)))] H := hP
        have hD : va_D A [(h0, .inr (7, [.ref q1, .long 0, .ref q2, .ref q3, .ref q4, .ref q5, .int 0])), (q1, .inl (cI, 165, .inl (fillB (upd x14 27 51000) 33 50000 20))), (q2, .inl (cI, 165, .inl (fun _ => 0))), (q3, .inl (cI, 330, .inl (fun _ => 0))), (q4, .inl (cJ, 2, .inr (.inl (fun _ => 0)))), (q5, .inl (cZ, 2, .inl (fun _ => 0)))] := hD
        have hl : lv_has ls 2 [(0, .ref h0), (1, .int (nI 20))] := hl
        exact hret (fun k => [q1, q2, q3, q4, q5].getD k 0) _ _ _ _ _ _ _ (by subst ex6; subst ex7; subst ex8; subst ex9; subst ex10; subst ex11; subst ex12; subst ex13; subst ex14; first | with_reducible rfl | (simp only [a_q1_X7_init, a_q2_X7_init, a_q3_X7_init, a_q4_X7_init, a_q5_X7_init]; done) | rfl) hP hD hS (Nat.le_of_ble_eq_true rfl) (Nat.le_of_ble_eq_true rfl) dX7_init_255
      · have hiN : i < 20 := (gd_in (N := 20) rfl (Nat.le_of_ble_eq_true rfl) hi c15)
        refine lv_aload_n hx hb dX7_init_238 rfl (lv_at hl 0 rfl) ?_
        refine va_get (D := D) (ci := 7) (v := .ref q1) (C := RX7) (T := TX7) (N := 7) hx hb hts hi7 hown hK hP 0 rfl rfl 0 (by decide) (hts (.fieldLink RX7 7 "GridInverterModel" "at" "[I") (by decide +kernel)) (fun _ h9 => h9) rfl dX7_init_239 ?_
        refine lv_bipush (v := 33) hx hb dX7_init_242 (by decide) ?_
        refine lv_iload_n hx hb dX7_init_244 rfl (lv_at hl 1 rfl) ?_
        refine lv_iadd hx hb dX7_init_245 ?_
        refine lv_ldc hx hb hown (hts (.constant RX7 27 (50000)) (by decide +kernel)) dX7_init_246 ?_
        refine r_ast hx hb hK hP hD hS 1 0 rfl rfl (33 + i) (by subst ex6; subst ex7; subst ex8; subst ex9; subst ex10; subst ex11; subst ex12; subst ex13; subst ex14; exact nI_add 33 i) (by omega) (Nat.le_of_ble_eq_true rfl) dX7_init_248 (fun H locs hP hD hS => ?_)
        obtain ⟨x16, ex16⟩ : ∃ zz_, zz_ = (upd (fillB (upd x14 27 51000) 33 50000 i) (33 + i) 50000) := ⟨_, rfl⟩
        have hP : va_P D vwCl [(h0, .inr (7, [.ref q1, .long 0, .ref q2, .ref q3, .ref q4, .ref q5, .int 0])), (q1, .inl (cI, 165, .inl x16)), (q2, .inl (cI, 165, .inl (fun _ => 0))), (q3, .inl (cI, 330, .inl (fun _ => 0))), (q4, .inl (cJ, 2, .inr (.inl (fun _ => 0)))), (q5, .inl (cZ, 2, .inl (fun _ => 0)))] H := by rw [ex16]; exact hP
        have hD : va_D A [(h0, .inr (7, [.ref q1, .long 0, .ref q2, .ref q3, .ref q4, .ref q5, .int 0])), (q1, .inl (cI, 165, .inl x16)), (q2, .inl (cI, 165, .inl (fun _ => 0))), (q3, .inl (cI, 330, .inl (fun _ => 0))), (q4, .inl (cJ, 2, .inr (.inl (fun _ => 0)))), (q5, .inl (cZ, 2, .inl (fun _ => 0)))] := by rw [ex16]; exact hD
        refine lv_iinc (v := (nI (i + 1))) (lv' := [(1, .int (nI (i + 1))), (0, .ref h0)]) hx hb dX7_init_249 hl (k := 1) rfl (nI_1 i) (by decide) rfl (fun ls hl => ?_)
        refine lv_goto (tgt := 232) hx hb dX7_init_252 (by decide) ?_
        have eW : ([(h0, .inr (7, [.ref q1, .long 0, .ref q2, .ref q3, .ref q4, .ref q5, .int 0])), (q1, .inl (cI, 165, .inl x16)), (q2, .inl (cI, 165, .inl (fun _ => 0))), (q3, .inl (cI, 330, .inl (fun _ => 0))), (q4, .inl (cJ, 2, .inr (.inl (fun _ => 0)))), (q5, .inl (cZ, 2, .inl (fun _ => 0)))] : va_W) = [(h0, .inr (7, [.ref q1, .long 0, .ref q2, .ref q3, .ref q4, .ref q5, .int 0])), (q1, .inl (cI, 165, .inl (fillB (upd x14 27 51000) 33 50000 (i + 1)))), (q2, .inl (cI, 165, .inl (fun _ => 0))), (q3, .inl (cI, 330, .inl (fun _ => 0))), (q4, .inl (cJ, 2, .inr (.inl (fun _ => 0)))), (q5, .inl (cZ, 2, .inl (fun _ => 0)))] := (by subst ex16; rfl)
        have eL : ([(0, .ref h0), (1, .int (nI (i + 1)))] : List (Nat × Value)) = [(0, .ref h0), (1, .int (nI (i + 1)))] := (by subst ex16; rfl)
        exact ih (i + 1) H locs ls (by omega) (by omega) (P_eq eW (hP.sub (ws' := [(h0, .inr (7, [.ref q1, .long 0, .ref q2, .ref q3, .ref q4, .ref q5, .int 0])), (q1, .inl (cI, 165, .inl x16)), (q2, .inl (cI, 165, .inl (fun _ => 0))), (q3, .inl (cI, 330, .inl (fun _ => 0))), (q4, .inl (cJ, 2, .inr (.inl (fun _ => 0)))), (q5, .inl (cZ, 2, .inl (fun _ => 0)))]) [0, 1, 2, 3, 4, 5] rfl)) (D_eq eW (hD.sub (ws' := [(h0, .inr (7, [.ref q1, .long 0, .ref q2, .ref q3, .ref q4, .ref q5, .int 0])), (q1, .inl (cI, 165, .inl x16)), (q2, .inl (cI, 165, .inl (fun _ => 0))), (q3, .inl (cI, 330, .inl (fun _ => 0))), (q4, .inl (cJ, 2, .inr (.inl (fun _ => 0)))), (q5, .inl (cZ, 2, .inl (fun _ => 0)))]) [0, 1, 2, 3, 4, 5] (by decide) rfl)) hS (L_eq eL (lv_sub (l' := [(0, .ref h0), (1, .int (nI (i + 1)))]) hl [1, 0] rfl))
  have eW : ([(h0, .inr (7, [.ref q1, .long 0, .ref q2, .ref q3, .ref q4, .ref q5, .int 0])), (q1, .inl (cI, 165, .inl (upd x14 27 51000))), (q2, .inl (cI, 165, .inl (fun _ => 0))), (q3, .inl (cI, 330, .inl (fun _ => 0))), (q4, .inl (cJ, 2, .inr (.inl (fun _ => 0)))), (q5, .inl (cZ, 2, .inl (fun _ => 0)))] : va_W) = [(h0, .inr (7, [.ref q1, .long 0, .ref q2, .ref q3, .ref q4, .ref q5, .int 0])), (q1, .inl (cI, 165, .inl (fillB (upd x14 27 51000) 33 50000 0))), (q2, .inl (cI, 165, .inl (fun _ => 0))), (q3, .inl (cI, 330, .inl (fun _ => 0))), (q4, .inl (cJ, 2, .inr (.inl (fun _ => 0)))), (q5, .inl (cZ, 2, .inl (fun _ => 0)))] := by subst ex6; subst ex7; subst ex8; subst ex9; subst ex10; subst ex11; subst ex12; subst ex13; subst ex14; rfl
  have eL : ([(0, .ref h0), (1, .int 0)] : List (Nat × Value)) = [(0, .ref h0), (1, .int (nI 0))] := by subst ex6; subst ex7; subst ex8; subst ex9; subst ex10; subst ex11; subst ex12; subst ex13; subst ex14; rfl
  exact L232 (20 + 1) 0 H locs ls (by omega) (by omega) (P_eq eW (hP.sub (ws' := [(h0, .inr (7, [.ref q1, .long 0, .ref q2, .ref q3, .ref q4, .ref q5, .int 0])), (q1, .inl (cI, 165, .inl (upd x14 27 51000))), (q2, .inl (cI, 165, .inl (fun _ => 0))), (q3, .inl (cI, 330, .inl (fun _ => 0))), (q4, .inl (cJ, 2, .inr (.inl (fun _ => 0)))), (q5, .inl (cZ, 2, .inl (fun _ => 0)))]) [0, 1, 2, 3, 4, 5] rfl)) (D_eq eW (hD.sub (ws' := [(h0, .inr (7, [.ref q1, .long 0, .ref q2, .ref q3, .ref q4, .ref q5, .int 0])), (q1, .inl (cI, 165, .inl (upd x14 27 51000))), (q2, .inl (cI, 165, .inl (fun _ => 0))), (q3, .inl (cI, 330, .inl (fun _ => 0))), (q4, .inl (cJ, 2, .inr (.inl (fun _ => 0)))), (q5, .inl (cZ, 2, .inl (fun _ => 0)))]) [0, 1, 2, 3, 4, 5] (by decide) rfl)) hS (L_eq eL (lv_sub (l' := [(0, .ref h0), (1, .int 0)]) hl [1, 0] rfl))
