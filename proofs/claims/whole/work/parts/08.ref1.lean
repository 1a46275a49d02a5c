set_option maxHeartbeats 4000000 in
set_option maxRecDepth 100000 in
theorem mX7_thrown (l : Launch) (D : va_G) (cI cJ cZ cO : ClassId) (h0 : Nat) (h1 : Nat) (h2 : Nat) (h3 : Nat) (h4 : Nat) (h5 : Nat) (me : Int64) (tw : Int32) : MI l yX7_thrown wsX7_thrown ({ frames := 0, cells := 0, slots := 0, locals := 0 } : Room) D (tysK cI cJ cZ cO) [.ref h0] [(h0, .inr (7, [.ref h1, .long me, .ref h2, .ref h3, .ref h4, .ref h5, .int tw]))] tw [(h0, .inr (7, [.ref h1, .long me, .ref h2, .ref h3, .ref h4, .ref h5, .int tw]))] := by
  refine MI.of (cc := cX7_thrown) (maxL := 1) (ret := .int) (by decide) rfl (Nat.le_of_ble_eq_true rfl) rfl ?_
  intro p e s m args below meth c A Q ls H locs B hS hP hD hl hret
  obtain ⟨hx, hb, hml, hown, hts, hK, hN, hA, hlocks⟩ := B
  have hi7 : ∀ w ∈ u_ws RX7 TX7 7, w ∈ wsX7_thrown := by decide +kernel
  have hl : lv_has ls 1 [(0, .ref h0)] := hl
  refine lv_aload_n hx hb dX7_thrown_0 rfl (lv_at hl 0 rfl) ?_
  refine va_get (D := D) (ci := 7) (v := .int tw) (C := RX7) (T := TX7) (N := 7) hx hb hts hi7 hown hK hP 0 rfl rfl 6 (by decide) (hts (.fieldLink RX7 30 "GridInverterModel" "thrown" "I") (by decide +kernel)) (fun _ h9 => h9) rfl dX7_thrown_1 ?_
  exact hret _ _ _ _ _ _ _ _ (by first | with_reducible rfl | (simp only []; done) | rfl) (by first | with_reducible rfl | (simp only []; done) | rfl) hP hD hS (Nat.le_of_ble_eq_true rfl) (Nat.le_of_ble_eq_true rfl) dX7_thrown_4

def r_X7_isIsland (p0 : Int32) (p1 : Int32) (p2 : Int32) : Int32 := (if (r_X7_in p0 1 5000) = 0 then 0 else (if (r_X7_in p1 45000 65000) = 0 then 0 else (if (r_X7_in p2 0 100) = 0 then 0 else 1 : Int32) : Int32) : Int32)
set_option maxHeartbeats 4000000 in
set_option maxRecDepth 100000 in
theorem mX7_isIsland (l : Launch) (D : va_G) (cI cJ cZ cO : ClassId) (p0 : Int32) (p1 : Int32) (p2 : Int32) : MI l yX7_isIsland wsX7_isIsland ({ frames := 1, cells := 0, slots := 0, locals := 22 } : Room) D (tysK cI cJ cZ cO) [.int p0, .int p1, .int p2] [] (r_X7_isIsland p0 p1 p2) [] := by
  refine MI.of (cc := cX7_isIsland) (maxL := 3) (ret := .boolean) (by decide) rfl (Nat.le_of_ble_eq_true rfl) (by simp only [r_X7_isIsland]; first | rfl | (repeat' split) <;> rfl) ?_
  intro p e s m args below meth c A Q ls H locs B hS hP hD hl hret
  obtain ⟨hx, hb, hml, hown, hts, hK, hN, hA, hlocks⟩ := B
  have hl : lv_has ls 3 [(0, .int p0), (1, .int p1), (2, .int p2)] := hl
  refine lv_iload_n hx hb dX7_isIsland_0 rfl (lv_at hl 0 rfl) ?_
  refine lv_iconst (v := 1) hx hb dX7_isIsland_1 (by decide) ?_
  refine lv_sipush (v := 5000) hx hb dX7_isIsland_2 (by decide) ?_
  refine call_i (wr := []) (k := 0) (n := 0) (run_S (As := [.int p0, .int 1, .int 5000]) (rest := []) ⟨hx, hb, hml, hown, hts⟩ (mX7_in l D cI cJ cZ cO p0 1 5000 H.size) (va_cwS 3 hts gX7_isIsland_X7_in rfl rfl rfl (by decide +kernel) ⟨Nat.le_of_ble_eq_true rfl, Nat.le_of_ble_eq_true rfl⟩) hK hN hP hD [] (by decide) rfl rfl rfl hl.1 (Nat.le_of_ble_eq_true rfl) dX7_isIsland_5 ⟨Nat.le_of_ble_eq_true rfl, Nat.le_of_ble_eq_true rfl⟩) hP hD hS hA [] [] rfl rfl (by decide) (by decide) (Nat.le_of_ble_eq_true rfl) (Nat.le_of_ble_eq_true rfl) (fun H locs hP hD hS => ?_)
  have hP : va_P D vwCl [] H := hP
  have hD : va_D A [] := hD
  have K37 : ∀ (y3 : Int32) (H : Heap) (locs : List Loc) (ls : Array Slot), y3 = (if (r_X7_in p0 1 5000) = 0 then 0 else (if (r_X7_in p1 45000 65000) = 0 then 0 else (if (r_X7_in p2 0 100) = 0 then 0 else 1 : Int32) : Int32) : Int32) → va_P D vwCl [] H → va_D A [] → va_S A s.heap H locs → lv_has ls 3 [(0, .int p0), (1, .int p1), (2, .int p2)] → W p l e ({ frames := 1, cells := 0, slots := 0, locals := 22 } : Room) s m args below meth c H locs 0 0 Q (F0 m 37 ls [.int y3]) := by
    intro y3 H locs ls ey3 hP hD hS hl
    exact hret _ _ _ _ _ _ _ _ (by subst ey3; first | with_reducible rfl | (simp only [r_X7_isIsland]; done) | rfl) (by subst ey3; first | with_reducible rfl | (simp only [r_X7_isIsland]; done) | rfl) hP hD hS (Nat.le_of_ble_eq_true rfl) (Nat.le_of_ble_eq_true rfl) dX7_isIsland_37
  refine lv_if_eq (tgt := 36) hx hb dX7_isIsland_8 (by decide) (fun c2 => ?_) (fun c2 => ?_)
  · refine lv_iconst (v := 0) hx hb dX7_isIsland_36 (by decide) ?_
    exact K37 _ _ _ _ (by first | with_reducible rfl | (simp only [if_pos c2]; done) | rfl) (hP.sub [] rfl) (hD.sub [] (by decide) rfl) hS (lv_sub hl [0, 1, 2] rfl)
  · refine lv_iload_n hx hb dX7_isIsland_11 rfl (lv_at hl 1 rfl) ?_
    refine lv_ldc hx hb hown (hts (.constant RX7 39 (45000)) (by decide +kernel)) dX7_isIsland_12 ?_
    refine lv_ldc hx hb hown (hts (.constant RX7 40 (65000)) (by decide +kernel)) dX7_isIsland_14 ?_
    refine call_i (wr := []) (k := 0) (n := 0) (run_S (As := [.int p1, .int 45000, .int 65000]) (rest := []) ⟨hx, hb, hml, hown, hts⟩ (mX7_in l D cI cJ cZ cO p1 45000 65000 H.size) (va_cwS 3 hts gX7_isIsland_X7_in rfl rfl rfl (by decide +kernel) ⟨Nat.le_of_ble_eq_true rfl, Nat.le_of_ble_eq_true rfl⟩) hK hN hP hD [] (by decide) rfl rfl rfl hl.1 (Nat.le_of_ble_eq_true rfl) dX7_isIsland_16 ⟨Nat.le_of_ble_eq_true rfl, Nat.le_of_ble_eq_true rfl⟩) hP hD hS hA [] [] rfl rfl (by decide) (by decide) (Nat.le_of_ble_eq_true rfl) (Nat.le_of_ble_eq_true rfl) (fun H locs hP hD hS => ?_)
    have hP : va_P D vwCl [] H := hP
    have hD : va_D A [] := hD
    refine lv_if_eq (tgt := 36) hx hb dX7_isIsland_19 (by decide) (fun c5 => ?_) (fun c5 => ?_)
    · refine lv_iconst (v := 0) hx hb dX7_isIsland_36 (by decide) ?_
      exact K37 _ _ _ _ (by first | with_reducible rfl | (simp only [if_neg c2, if_pos c5]; done) | rfl) (hP.sub [] rfl) (hD.sub [] (by decide) rfl) hS (lv_sub hl [0, 1, 2] rfl)
    · refine lv_iload_n hx hb dX7_isIsland_22 rfl (lv_at hl 2 rfl) ?_
      refine lv_iconst (v := 0) hx hb dX7_isIsland_23 (by decide) ?_
      refine lv_bipush (v := 100) hx hb dX7_isIsland_24 (by decide) ?_
      refine call_i (wr := []) (k := 0) (n := 0) (run_S (As := [.int p2, .int 0, .int 100]) (rest := []) ⟨hx, hb, hml, hown, hts⟩ (mX7_in l D cI cJ cZ cO p2 0 100 H.size) (va_cwS 3 hts gX7_isIsland_X7_in rfl rfl rfl (by decide +kernel) ⟨Nat.le_of_ble_eq_true rfl, Nat.le_of_ble_eq_true rfl⟩) hK hN hP hD [] (by decide) rfl rfl rfl hl.1 (Nat.le_of_ble_eq_true rfl) dX7_isIsland_26 ⟨Nat.le_of_ble_eq_true rfl, Nat.le_of_ble_eq_true rfl⟩) hP hD hS hA [] [] rfl rfl (by decide) (by decide) (Nat.le_of_ble_eq_true rfl) (Nat.le_of_ble_eq_true rfl) (fun H locs hP hD hS => ?_)
      have hP : va_P D vwCl [] H := hP
      have hD : va_D A [] := hD
      refine lv_if_eq (tgt := 36) hx hb dX7_isIsland_29 (by decide) (fun c7 => ?_) (fun c7 => ?_)
      · refine lv_iconst (v := 0) hx hb dX7_isIsland_36 (by decide) ?_
        exact K37 _ _ _ _ (by first | with_reducible rfl | (simp only [if_neg c2, if_neg c5, if_pos c7]; done) | rfl) (hP.sub [] rfl) (hD.sub [] (by decide) rfl) hS (lv_sub hl [0, 1, 2] rfl)
      · refine lv_iconst (v := 1) hx hb dX7_isIsland_32 (by decide) ?_
        refine lv_goto (tgt := 37) hx hb dX7_isIsland_33 (by decide) ?_
        exact K37 _ _ _ _ (by first | with_reducible rfl | (simp only [if_neg c2, if_neg c5, if_neg c7]; done) | rfl) (hP.sub [] rfl) (hD.sub [] (by decide) rfl) hS (lv_sub hl [0, 1, 2] rfl)

def r_X7_hasLock (f : Nat → Int32) : Int32 := (if (f 7) < (f 19) then 0 else 1 : Int32)
set_option maxHeartbeats 4000000 in
set_option maxRecDepth 100000 in
theorem mX7_hasLock (l : Launch) (D : va_G) (cI cJ cZ cO : ClassId) (h0 : Nat) (h1 : Nat) (h2 : Nat) (h3 : Nat) (h4 : Nat) (h5 : Nat) (me : Int64) (tw : Int32) (f : Nat → Int32) : MI l yX7_hasLock wsX7_hasLock ({ frames := 0, cells := 0, slots := 0, locals := 0 } : Room) D (tysK cI cJ cZ cO) [.ref h0] [(h0, .inr (7, [.ref h1, .long me, .ref h2, .ref h3, .ref h4, .ref h5, .int tw])), (h1, .inl (cI, 165, .inl f))] (r_X7_hasLock f) [(h0, .inr (7, [.ref h1, .long me, .ref h2, .ref h3, .ref h4, .ref h5, .int tw])), (h1, .inl (cI, 165, .inl f))] := by
  refine MI.of (cc := cX7_hasLock) (maxL := 1) (ret := .boolean) (by decide) rfl (Nat.le_of_ble_eq_true rfl) (by simp only [r_X7_hasLock]; first | rfl | (repeat' split) <;> rfl) ?_
  intro p e s m args below meth c A Q ls H locs B hS hP hD hl hret
  obtain ⟨hx, hb, hml, hown, hts, hK, hN, hA, hlocks⟩ := B
  have hi7 : ∀ w ∈ u_ws RX7 TX7 7, w ∈ wsX7_hasLock := by decide +kernel
  have hl : lv_has ls 1 [(0, .ref h0)] := hl
  refine lv_aload_n hx hb dX7_hasLock_0 rfl (lv_at hl 0 rfl) ?_
  refine va_get (D := D) (ci := 7) (v := .ref h1) (C := RX7) (T := TX7) (N := 7) hx hb hts hi7 hown hK hP 0 rfl rfl 0 (by decide) (hts (.fieldLink RX7 7 "GridInverterModel" "at" "[I") (by decide +kernel)) (fun _ h9 => h9) rfl dX7_hasLock_1 ?_
  refine lv_bipush (v := 7) hx hb dX7_hasLock_4 (by decide) ?_
  refine r_ald hx hb hK hP 1 0 rfl rfl 7 rfl (Nat.le_of_ble_eq_true rfl) (Nat.le_of_ble_eq_true rfl) (v := (f 7)) rfl dX7_hasLock_6 ?_
  refine lv_aload_n hx hb dX7_hasLock_7 rfl (lv_at hl 0 rfl) ?_
  refine va_get (D := D) (ci := 7) (v := .ref h1) (C := RX7) (T := TX7) (N := 7) hx hb hts hi7 hown hK hP 0 rfl rfl 0 (by decide) (hts (.fieldLink RX7 7 "GridInverterModel" "at" "[I") (by decide +kernel)) (fun _ h9 => h9) rfl dX7_hasLock_8 ?_
  refine lv_bipush (v := 19) hx hb dX7_hasLock_11 (by decide) ?_
  refine r_ald hx hb hK hP 1 0 rfl rfl 19 rfl (Nat.le_of_ble_eq_true rfl) (Nat.le_of_ble_eq_true rfl) (v := (f 19)) rfl dX7_hasLock_13 ?_
  have K22 : ∀ (y3 : Int32) (H : Heap) (locs : List Loc) (ls : Array Slot), y3 = (if (f 7) < (f 19) then 0 else 1 : Int32) → va_P D vwCl [(h0, .inr (7, [.ref h1, .long me, .ref h2, .ref h3, .ref h4, .ref h5, .int tw])), (h1, .inl (cI, 165, .inl f))] H → va_D A [(h0, .inr (7, [.ref h1, .long me, .ref h2, .ref h3, .ref h4, .ref h5, .int tw])), (h1, .inl (cI, 165, .inl f))] → va_S A s.heap H locs → lv_has ls 1 [(0, .ref h0)] → W p l e ({ frames := 0, cells := 0, slots := 0, locals := 0 } : Room) s m args below meth c H locs 0 0 Q (F0 m 22 ls [.int y3]) := by
    intro y3 H locs ls ey3 hP hD hS hl
    exact hret _ _ _ _ _ _ _ _ (by subst ey3; first | with_reducible rfl | (simp only [r_X7_hasLock]; done) | rfl) (by subst ey3; first | with_reducible rfl | (simp only [r_X7_hasLock]; done) | rfl) hP hD hS (Nat.le_of_ble_eq_true rfl) (Nat.le_of_ble_eq_true rfl) dX7_hasLock_22
  refine lv_icmp_lt (tgt := 21) hx hb dX7_hasLock_14 (by decide) (fun c2 => ?_) (fun c2 => ?_)
  · refine lv_iconst (v := 0) hx hb dX7_hasLock_21 (by decide) ?_
    exact K22 _ _ _ _ (by first | with_reducible rfl | (simp only [if_pos c2]; done) | rfl) (hP.sub [0, 1] rfl) (hD.sub [0, 1] (by decide) rfl) hS (lv_sub hl [0] rfl)
  · refine lv_iconst (v := 1) hx hb dX7_hasLock_17 (by decide) ?_
    refine lv_goto (tgt := 22) hx hb dX7_hasLock_18 (by decide) ?_
    exact K22 _ _ _ _ (by first | with_reducible rfl | (simp only [if_neg c2]; done) | rfl) (hP.sub [0, 1] rfl) (hD.sub [0, 1] (by decide) rfl) hS (lv_sub hl [0] rfl)

def a_h1_X7_becomeIsland (f : Nat → Int32) (p0 : Int32) (p1 : Int32) (p2 : Int32) : Nat → Int32 := (upd (upd (upd f 13 p0) 14 p1) 15 p2)
set_option maxHeartbeats 4000000 in
set_option maxRecDepth 100000 in
theorem mX7_becomeIsland (l : Launch) (D : va_G) (cI cJ cZ cO : ClassId) (h0 : Nat) (h1 : Nat) (h2 : Nat) (h3 : Nat) (h4 : Nat) (h5 : Nat) (me : Int64) (tw : Int32) (f : Nat → Int32) (p0 : Int32) (p1 : Int32) (p2 : Int32) : MV l yX7_becomeIsland wsX7_becomeIsland ({ frames := 0, cells := 0, slots := 0, locals := 0 } : Room) D (tysK cI cJ cZ cO) [.ref h0, .int p0, .int p1, .int p2] [(h0, .inr (7, [.ref h1, .long me, .ref h2, .ref h3, .ref h4, .ref h5, .int tw])), (h1, .inl (cI, 165, .inl f))] (fun (_ : Unit) => [(h0, .inr (7, [.ref h1, .long me, .ref h2, .ref h3, .ref h4, .ref h5, .int tw])), (h1, .inl (cI, 165, .inl (a_h1_X7_becomeIsland f p0 p1 p2)))]) := by
  refine MV.of (cc := cX7_becomeIsland) (maxL := 4) (by decide) rfl (Nat.le_of_ble_eq_true rfl) ?_
  intro p e s m args below meth c A Q ls H locs B hin hS hP hD hl hret
  obtain ⟨hx, hb, hml, hown, hts, hK, hN, hA, hlocks⟩ := B
  have hi7 : ∀ w ∈ u_ws RX7 TX7 7, w ∈ wsX7_becomeIsland := by decide +kernel
  have hl : lv_has ls 4 [(0, .ref h0), (1, .int p0), (2, .int p1), (3, .int p2)] := hl
  refine lv_aload_n hx hb dX7_becomeIsland_0 rfl (lv_at hl 0 rfl) ?_
  refine va_get (D := D) (ci := 7) (v := .ref h1) (C := RX7) (T := TX7) (N := 7) hx hb hts hi7 hown hK hP 0 rfl rfl 0 (by decide) (hts (.fieldLink RX7 7 "GridInverterModel" "at" "[I") (by decide +kernel)) (fun _ h9 => h9) rfl dX7_becomeIsland_1 ?_
  refine lv_bipush (v := 13) hx hb dX7_becomeIsland_4 (by decide) ?_
  refine lv_iload_n hx hb dX7_becomeIsland_6 rfl (lv_at hl 1 rfl) ?_
  refine r_ast hx hb hK hP hD hS 1 0 rfl rfl 13 rfl (Nat.le_of_ble_eq_true rfl) (Nat.le_of_ble_eq_true rfl) dX7_becomeIsland_7 (fun H locs hP hD hS => ?_)
  have hP : va_P D vwCl [(h0, .inr (7, [.ref h1, .long me, .ref h2, .ref h3, .ref h4, .ref h5, .int tw])), (h1, .inl (cI, 165, .inl (upd f 13 p0)))] H := hP
  have hD : va_D A [(h0, .inr (7, [.ref h1, .long me, .ref h2, .ref h3, .ref h4, .ref h5, .int tw])), (h1, .inl (cI, 165, .inl (upd f 13 p0)))] := hD
  refine lv_aload_n hx hb dX7_becomeIsland_8 rfl (lv_at hl 0 rfl) ?_
  refine va_get (D := D) (ci := 7) (v := .ref h1) (C := RX7) (T := TX7) (N := 7) hx hb hts hi7 hown hK hP 0 rfl rfl 0 (by decide) (hts (.fieldLink RX7 7 "GridInverterModel" "at" "[I") (by decide +kernel)) (fun _ h9 => h9) rfl dX7_becomeIsland_9 ?_
  refine lv_bipush (v := 14) hx hb dX7_becomeIsland_12 (by decide) ?_
  refine lv_iload_n hx hb dX7_becomeIsland_14 rfl (lv_at hl 2 rfl) ?_
  refine r_ast hx hb hK hP hD hS 1 0 rfl rfl 14 rfl (Nat.le_of_ble_eq_true rfl) (Nat.le_of_ble_eq_true rfl) dX7_becomeIsland_15 (fun H locs hP hD hS => ?_)
  have hP : va_P D vwCl [(h0, .inr (7, [.ref h1, .long me, .ref h2, .ref h3, .ref h4, .ref h5, .int tw])), (h1, .inl (cI, 165, .inl (upd (upd f 13 p0) 14 p1)))] H := hP
  have hD : va_D A [(h0, .inr (7, [.ref h1, .long me, .ref h2, .ref h3, .ref h4, .ref h5, .int tw])), (h1, .inl (cI, 165, .inl (upd (upd f 13 p0) 14 p1)))] := hD
  refine lv_aload_n hx hb dX7_becomeIsland_16 rfl (lv_at hl 0 rfl) ?_
  refine va_get (D := D) (ci := 7) (v := .ref h1) (C := RX7) (T := TX7) (N := 7) hx hb hts hi7 hown hK hP 0 rfl rfl 0 (by decide) (hts (.fieldLink RX7 7 "GridInverterModel" "at" "[I") (by decide +kernel)) (fun _ h9 => h9) rfl dX7_becomeIsland_17 ?_
  refine lv_bipush (v := 15) hx hb dX7_becomeIsland_20 (by decide) ?_
  refine lv_iload_n hx hb dX7_becomeIsland_22 rfl (lv_at hl 3 rfl) ?_
  refine r_ast hx hb hK hP hD hS 1 0 rfl rfl 15 rfl (Nat.le_of_ble_eq_true rfl) (Nat.le_of_ble_eq_true rfl) dX7_becomeIsland_23 (fun H locs hP hD hS => ?_)
  obtain ⟨x1, ex1⟩ : ∃ zz_, zz_ = (upd (upd (upd f 13 p0) 14 p1) 15 p2) := ⟨_, rfl⟩
  have hP : va_P D vwCl [(h0, .inr (7, [.ref h1, .long me, .ref h2, .ref h3, .ref h4, .ref h5, .int tw])), (h1, .inl (cI, 165, .inl x1))] H := by rw [ex1]; exact hP
  have hD : va_D A [(h0, .inr (7, [.ref h1, .long me, .ref h2, .ref h3, .ref h4, .ref h5, .int tw])), (h1, .inl (cI, 165, .inl x1))] := by rw [ex1]; exact hD
  exact hret () _ _ _ _ _ _ _ (by subst ex1; first | with_reducible rfl | (simp only [a_h1_X7_becomeIsland]; done) | rfl) hP hD hS (Nat.le_of_ble_eq_true rfl) (Nat.le_of_ble_eq_true rfl) dX7_becomeIsland_24

def v_h0_thrown_X7_setGrid (p0 : Int32) (p1 : Int32) : Int32 := (if (r_X7_in p0 0 400) = 0 then 1 else (if (r_X7_in p1 45000 65000) = 0 then 1 else 0 : Int32) : Int32)
def a_h1_X7_setGrid (f : Nat → Int32) (p0 : Int32) (p1 : Int32) : Nat → Int32 := (if (if (r_X7_in p0 0 400) = 0 then 1 else (if (r_X7_in p1 45000 65000) = 0 then 1 else 0 : Int32) : Int32) = 0 then (upd (upd f 11 p0) 12 p1) else f : Nat → Int32)
set_option maxHeartbeats 4000000 in
set_option maxRecDepth 100000 in
theorem mX7_setGrid (l : Launch) (D : va_G) (cI cJ cZ cO : ClassId) (h0 : Nat) (h1 : Nat) (h2 : Nat) (h3 : Nat) (h4 : Nat) (h5 : Nat) (me : Int64) (tw : Int32) (f : Nat → Int32) (p0 : Int32) (p1 : Int32) : MV l yX7_setGrid wsX7_setGrid ({ frames := 1, cells := 0, slots := 0, locals := 22 } : Room) D (tysK cI cJ cZ cO) [.ref h0, .int p0, .int p1] [(h0, .inr (7, [.ref h1, .long me, .ref h2, .ref h3, .ref h4, .ref h5, .int tw])), (h1, .inl (cI, 165, .inl f))] (fun (_ : Unit) => [(h0, .inr (7, [.ref h1, .long me, .ref h2, .ref h3, .ref h4, .ref h5, .int (v_h0_thrown_X7_setGrid p0 p1)])), (h1, .inl (cI, 165, .inl (a_h1_X7_setGrid f p0 p1)))]) := by
  refine MV.of (cc := cX7_setGrid) (maxL := 3) (by decide) rfl (Nat.le_of_ble_eq_true rfl) ?_
  intro p e s m args below meth c A Q ls H locs B hin hS hP hD hl hret
  obtain ⟨hx, hb, hml, hown, hts, hK, hN, hA, hlocks⟩ := B
  have hi7 : ∀ w ∈ u_ws RX7 TX7 7, w ∈ wsX7_setGrid := by decide +kernel
  have hl : lv_has ls 3 [(0, .ref h0), (1, .int p0), (2, .int p1)] := hl
  refine lv_aload_n hx hb dX7_setGrid_0 rfl (lv_at hl 0 rfl) ?_
  refine lv_iload_n hx hb dX7_setGrid_1 rfl (lv_at hl 1 rfl) ?_
  refine lv_iconst (v := 0) hx hb dX7_setGrid_2 (by decide) ?_
  refine lv_sipush (v := 400) hx hb dX7_setGrid_3 (by decide) ?_
  refine call_i (wr := [(h0, .inr (7, [.ref h1, .long me, .ref h2, .ref h3, .ref h4, .ref h5, .int tw])), (h1, .inl (cI, 165, .inl f))]) (k := 0) (n := 0) (run_S (As := [.int p0, .int 0, .int 400]) (rest := [.ref h0]) ⟨hx, hb, hml, hown, hts⟩ (mX7_in l D cI cJ cZ cO p0 0 400 H.size) (va_cwS 3 hts gX7_setGrid_X7_in rfl rfl rfl (by decide +kernel) ⟨Nat.le_of_ble_eq_true rfl, Nat.le_of_ble_eq_true rfl⟩) hK hN hP hD [] (by decide) rfl rfl rfl hl.1 (Nat.le_of_ble_eq_true rfl) dX7_setGrid_6 ⟨Nat.le_of_ble_eq_true rfl, Nat.le_of_ble_eq_true rfl⟩) hP hD hS hA [] [0, 1] rfl rfl (by decide) (by decide) (Nat.le_of_ble_eq_true rfl) (Nat.le_of_ble_eq_true rfl) (fun H locs hP hD hS => ?_)
  have hP : va_P D vwCl [(h0, .inr (7, [.ref h1, .long me, .ref h2, .ref h3, .ref h4, .ref h5, .int tw])), (h1, .inl (cI, 165, .inl f))] H := hP
  have hD : va_D A [(h0, .inr (7, [.ref h1, .long me, .ref h2, .ref h3, .ref h4, .ref h5, .int tw])), (h1, .inl (cI, 165, .inl f))] := hD
  have K28 : ∀ (y3 : Int32) (H : Heap) (locs : List Loc) (ls : Array Slot), y3 = (if (r_X7_in p0 0 400) = 0 then 1 else (if (r_X7_in p1 45000 65000) = 0 then 1 else 0 : Int32) : Int32) → va_P D vwCl [(h0, .inr (7, [.ref h1, .long me, .ref h2, .ref h3, .ref h4, .ref h5, .int tw])), (h1, .inl (cI, 165, .inl f))] H → va_D A [(h0, .inr (7, [.ref h1, .long me, .ref h2, .ref h3, .ref h4, .ref h5, .int tw])), (h1, .inl (cI, 165, .inl f))] → va_S A s.heap H locs → lv_has ls 3 [(0, .ref h0), (1, .int p0), (2, .int p1)] → W p l e ({ frames := 1, cells := 0, slots := 0, locals := 22 } : Room) s m args below meth c H locs 0 0 Q (F0 m 28 ls [.int y3, .ref h0]) := by
    intro y3 H locs ls ey3 hP hD hS hl
    refine va_put (D := D) (ci := 7) (v := .int y3) (ty := .int) (C := RX7) (T := TX7) (N := 7) hx hb hts hi7 tyX7 tyX7_ok nmX7 hown hK hP hD hS 0 rfl rfl 6 (by decide) (hts (.fieldLink RX7 30 "GridInverterModel" "thrown" "I") (by decide +kernel)) (fun _ h9 => h9) rfl (by decide +kernel) rfl rfl (Nat.le_of_ble_eq_true rfl) dX7_setGrid_28 (fun H locs hP hD hS => ?_)
    have hP : va_P D vwCl [(h0, .inr (7, [.ref h1, .long me, .ref h2, .ref h3, .ref h4, .ref h5, .int y3])), (h1, .inl (cI, 165, .inl f))] H := hP
    have hD : va_D A [(h0, .inr (7, [.ref h1, .long me, .ref h2, .ref h3, .ref h4, .ref h5, .int y3])), (h1, .inl (cI, 165, .inl f))] := hD
    refine lv_aload_n hx hb dX7_setGrid_31 rfl (lv_at hl 0 rfl) ?_
    refine va_get (D := D) (ci := 7) (v := .int y3) (C := RX7) (T := TX7) (N := 7) hx hb hts hi7 hown hK hP 0 rfl rfl 6 (by decide) (hts (.fieldLink RX7 30 "GridInverterModel" "thrown" "I") (by decide +kernel)) (fun _ h9 => h9) rfl dX7_setGrid_32 ?_
    have K54 : ∀ (y6 : Nat → Int32) (H : Heap) (locs : List Loc) (ls : Array Slot), y6 = (if (if (r_X7_in p0 0 400) = 0 then 1 else (if (r_X7_in p1 45000 65000) = 0 then 1 else 0 : Int32) : Int32) = 0 then (upd (upd f 11 p0) 12 p1) else f : Nat → Int32) → va_P D vwCl [(h0, .inr (7, [.ref h1, .long me, .ref h2, .ref h3, .ref h4, .ref h5, .int y3])), (h1, .inl (cI, 165, .inl y6))] H → va_D A [(h0, .inr (7, [.ref h1, .long me, .ref h2, .ref h3, .ref h4, .ref h5, .int y3])), (h1, .inl (cI, 165, .inl y6))] → va_S A s.heap H locs → lv_has ls 3 [(0, .ref h0), (1, .int p0), (2, .int p1)] → W p l e ({ frames := 1, cells := 0, slots := 0, locals := 22 } : Room) s m args below meth c H locs 0 0 Q (F0 m 54 ls []) := by
      intro y6 H locs ls ey6 hP hD hS hl
      exact hret () _ _ _ _ _ _ _ (by subst ey3; subst ey6; first | with_reducible rfl | (simp only [v_h0_thrown_X7_setGrid, a_h1_X7_setGrid]; done) | rfl) hP hD hS (Nat.le_of_ble_eq_true rfl) (Nat.le_of_ble_eq_true rfl) dX7_setGrid_54
    refine lv_if_ne (tgt := 54) hx hb dX7_setGrid_35 (by decide) (fun c5 => ?_) (fun c5 => ?_)
    · exact K54 _ _ _ _ (by subst ey3; first | with_reducible rfl | (simp only [if_neg c5]; done) | rfl) (hP.sub [0, 1] rfl) (hD.sub [0, 1] (by decide) rfl) hS (lv_sub hl [0, 1, 2] rfl)
    · refine lv_aload_n hx hb dX7_setGrid_38 rfl (lv_at hl 0 rfl) ?_
      refine va_get (D := D) (ci := 7) (v := .ref h1) (C := RX7) (T := TX7) (N := 7) hx hb hts hi7 hown hK hP 0 rfl rfl 0 (by decide) (hts (.fieldLink RX7 7 "GridInverterModel" "at" "[I") (by decide +kernel)) (fun _ h9 => h9) rfl dX7_setGrid_39 ?_
      refine lv_bipush (v := 11) hx hb dX7_setGrid_42 (by decide) ?_
      refine lv_iload_n hx hb dX7_setGrid_44 rfl (lv_at hl 1 rfl) ?_
      refine r_ast hx hb hK hP hD hS 1 0 rfl rfl 11 rfl (Nat.le_of_ble_eq_true rfl) (Nat.le_of_ble_eq_true rfl) dX7_setGrid_45 (fun H locs hP hD hS => ?_)
      have hP : va_P D vwCl [(h0, .inr (7, [.ref h1, .long me, .ref h2, .ref h3, .ref h4, .ref h5, .int y3])), (h1, .inl (cI, 165, .inl (upd f 11 p0)))] H := hP
      have hD : va_D A [(h0, .inr (7, [.ref h1, .long me, .ref h2, .ref h3, .ref h4, .ref h5, .int y3])), (h1, .inl (cI, 165, .inl (upd f 11 p0)))] := hD
      refine lv_aload_n hx hb dX7_setGrid_46 rfl (lv_at hl 0 rfl) ?_
      refine va_get (D := D) (ci := 7) (v := .ref h1) (C := RX7) (T := TX7) (N := 7) hx hb hts hi7 hown hK hP 0 rfl rfl 0 (by decide) (hts (.fieldLink RX7 7 "GridInverterModel" "at" "[I") (by decide +kernel)) (fun _ h9 => h9) rfl dX7_setGrid_47 ?_
      refine lv_bipush (v := 12) hx hb dX7_setGrid_50 (by decide) ?_
      refine lv_iload_n hx hb dX7_setGrid_52 rfl (lv_at hl 2 rfl) ?_
      refine r_ast hx hb hK hP hD hS 1 0 rfl rfl 12 rfl (Nat.le_of_ble_eq_true rfl) (Nat.le_of_ble_eq_true rfl) dX7_setGrid_53 (fun H locs hP hD hS => ?_)
      have hP : va_P D vwCl [(h0, .inr (7, [.ref h1, .long me, .ref h2, .ref h3, .ref h4, .ref h5, .int y3])), (h1, .inl (cI, 165, .inl (upd (upd f 11 p0) 12 p1)))] H := hP
      have hD : va_D A [(h0, .inr (7, [.ref h1, .long me, .ref h2, .ref h3, .ref h4, .ref h5, .int y3])), (h1, .inl (cI, 165, .inl (upd (upd f 11 p0) 12 p1)))] := hD
      exact K54 _ _ _ _ (by subst ey3; first | with_reducible rfl | (simp only [if_pos c5]; done) | rfl) (hP.sub [0, 1] rfl) (hD.sub [0, 1] (by decide) rfl) hS (lv_sub hl [0, 1, 2] rfl)
  refine lv_if_eq (tgt := 27) hx hb dX7_setGrid_9 (by decide) (fun c2 => ?_) (fun c2 => ?_)
  · refine lv_iconst (v := 1) hx hb dX7_setGrid_27 (by decide) ?_
    exact K28 _ _ _ _ (by first | with_reducible rfl | (simp only [if_pos c2]; done) | rfl) (hP.sub [0, 1] rfl) (hD.sub [0, 1] (by decide) rfl) hS (lv_sub hl [0, 1, 2] rfl)
  · refine lv_iload_n hx hb dX7_setGrid_12 rfl (lv_at hl 2 rfl) ?_
    refine lv_ldc hx hb hown (hts (.constant RX7 39 (45000)) (by decide +kernel)) dX7_setGrid_13 ?_
    refine lv_ldc hx hb hown (hts (.constant RX7 40 (65000)) (by decide +kernel)) dX7_setGrid_15 ?_
    refine call_i (wr := [(h0, .inr (7, [.ref h1, .long me, .ref h2, .ref h3, .ref h4, .ref h5, .int tw])), (h1, .inl (cI, 165, .inl f))]) (k := 0) (n := 0) (run_S (As := [.int p1, .int 45000, .int 65000]) (rest := [.ref h0]) ⟨hx, hb, hml, hown, hts⟩ (mX7_in l D cI cJ cZ cO p1 45000 65000 H.size) (va_cwS 3 hts gX7_setGrid_X7_in rfl rfl rfl (by decide +kernel) ⟨Nat.le_of_ble_eq_true rfl, Nat.le_of_ble_eq_true rfl⟩) hK hN hP hD [] (by decide) rfl rfl rfl hl.1 (Nat.le_of_ble_eq_true rfl) dX7_setGrid_17 ⟨Nat.le_of_ble_eq_true rfl, Nat.le_of_ble_eq_true rfl⟩) hP hD hS hA [] [0, 1] rfl rfl (by decide) (by decide) (Nat.le_of_ble_eq_true rfl) (Nat.le_of_ble_eq_true rfl) (fun H locs hP hD hS => ?_)
    have hP : va_P D vwCl [(h0, .inr (7, [.ref h1, .long me, .ref h2, .ref h3, .ref h4, .ref h5, .int tw])), (h1, .inl (cI, 165, .inl f))] H := hP
    have hD : va_D A [(h0, .inr (7, [.ref h1, .long me, .ref h2, .ref h3, .ref h4, .ref h5, .int tw])), (h1, .inl (cI, 165, .inl f))] := hD
    refine lv_if_eq (tgt := 27) hx hb dX7_setGrid_20 (by decide) (fun c8 => ?_) (fun c8 => ?_)
    · refine lv_iconst (v := 1) hx hb dX7_setGrid_27 (by decide) ?_
      exact K28 _ _ _ _ (by first | with_reducible rfl | (simp only [if_neg c2, if_pos c8]; done) | rfl) (hP.sub [0, 1] rfl) (hD.sub [0, 1] (by decide) rfl) hS (lv_sub hl [0, 1, 2] rfl)
    · refine lv_iconst (v := 0) hx hb dX7_setGrid_23 (by decide) ?_
      refine lv_goto (tgt := 28) hx hb dX7_setGrid_24 (by decide) ?_
      exact K28 _ _ _ _ (by first | with_reducible rfl | (simp only [if_neg c2, if_neg c8]; done) | rfl) (hP.sub [0, 1] rfl) (hD.sub [0, 1] (by decide) rfl) hS (lv_sub hl [0, 1, 2] rfl)

def v_h0_thrown_X7_setLoad (p0 : Int32) (p1 : Int32) (p2 : Int32) : Int32 := (if (r_X7_isIsland p0 p1 p2) = 0 then 1 else 0 : Int32)
def a_h1_X7_setLoad (f : Nat → Int32) (p0 : Int32) (p1 : Int32) (p2 : Int32) : Nat → Int32 := (if (if (r_X7_isIsland p0 p1 p2) = 0 then 1 else 0 : Int32) = 0 then (a_h1_X7_becomeIsland f p0 p1 p2) else f : Nat → Int32)
set_option maxHeartbeats 4000000 in
set_option maxRecDepth 100000 in
theorem mX7_setLoad (l : Launch) (D : va_G) (cI cJ cZ cO : ClassId) (h0 : Nat) (h1 : Nat) (h2 : Nat) (h3 : Nat) (h4 : Nat) (h5 : Nat) (me : Int64) (tw : Int32) (f : Nat → Int32) (p0 : Int32) (p1 : Int32) (p2 : Int32) : MV l yX7_setLoad wsX7_setLoad ({ frames := 2, cells := 0, slots := 0, locals := 44 } : Room) D (tysK cI cJ cZ cO) [.ref h0, .int p0, .int p1, .int p2] [(h0, .inr (7, [.ref h1, .long me, .ref h2, .ref h3, .ref h4, .ref h5, .int tw])), (h1, .inl (cI, 165, .inl f))] (fun (_ : Unit) => [(h0, .inr (7, [.ref h1, .long me, .ref h2, .ref h3, .ref h4, .ref h5, .int (v_h0_thrown_X7_setLoad p0 p1 p2)])), (h1, .inl (cI, 165, .inl (a_h1_X7_setLoad f p0 p1 p2)))]) := by
  refine MV.of (cc := cX7_setLoad) (maxL := 4) (by decide) rfl (Nat.le_of_ble_eq_true rfl) ?_
  intro p e s m args below meth c A Q ls H locs B hin hS hP hD hl hret
  obtain ⟨hx, hb, hml, hown, hts, hK, hN, hA, hlocks⟩ := B
  have hi7 : ∀ w ∈ u_ws RX7 TX7 7, w ∈ wsX7_setLoad := by decide +kernel
  have hl : lv_has ls 4 [(0, .ref h0), (1, .int p0), (2, .int p1), (3, .int p2)] := hl
  refine lv_aload_n hx hb dX7_setLoad_0 rfl (lv_at hl 0 rfl) ?_
  refine lv_iload_n hx hb dX7_setLoad_1 rfl (lv_at hl 1 rfl) ?_
  refine lv_iload_n hx hb dX7_setLoad_2 rfl (lv_at hl 2 rfl) ?_
  refine lv_iload_n hx hb dX7_setLoad_3 rfl (lv_at hl 3 rfl) ?_
  refine call_i (wr := [(h0, .inr (7, [.ref h1, .long me, .ref h2, .ref h3, .ref h4, .ref h5, .int tw])), (h1, .inl (cI, 165, .inl f))]) (k := 0) (n := 0) (run_S (As := [.int p0, .int p1, .int p2]) (rest := [.ref h0]) ⟨hx, hb, hml, hown, hts⟩ (mX7_isIsland l D cI cJ cZ cO p0 p1 p2 H.size) (va_cwS 3 hts gX7_setLoad_X7_isIsland rfl rfl rfl (by decide +kernel) ⟨Nat.le_of_ble_eq_true rfl, Nat.le_of_ble_eq_true rfl⟩) hK hN hP hD [] (by decide) rfl rfl rfl hl.1 (Nat.le_of_ble_eq_true rfl) dX7_setLoad_4 ⟨Nat.le_of_ble_eq_true rfl, Nat.le_of_ble_eq_true rfl⟩) hP hD hS hA [] [0, 1] rfl rfl (by decide) (by decide) (Nat.le_of_ble_eq_true rfl) (Nat.le_of_ble_eq_true rfl) (fun H locs hP hD hS => ?_)
  have hP : va_P D vwCl [(h0, .inr (7, [.ref h1, .long me, .ref h2, .ref h3, .ref h4, .ref h5, .int tw])), (h1, .inl (cI, 165, .inl f))] H := hP
  have hD : va_D A [(h0, .inr (7, [.ref h1, .long me, .ref h2, .ref h3, .ref h4, .ref h5, .int tw])), (h1, .inl (cI, 165, .inl f))] := hD
  have K15 : ∀ (y3 : Int32) (H : Heap) (locs : List Loc) (ls : Array Slot), y3 = (if (r_X7_isIsland p0 p1 p2) = 0 then 1 else 0 : Int32) → va_P D vwCl [(h0, .inr (7, [.ref h1, .long me, .ref h2, .ref h3, .ref h4, .ref h5, .int tw])), (h1, .inl (cI, 165, .inl f))] H → va_D A [(h0, .inr (7, [.ref h1, .long me, .ref h2, .ref h3, .ref h4, .ref h5, .int tw])), (h1, .inl (cI, 165, .inl f))] → va_S A s.heap H locs → lv_has ls 4 [(0, .ref h0), (1, .int p0), (2, .int p1), (3, .int p2)] → W p l e ({ frames := 2, cells := 0, slots := 0, locals := 44 } : Room) s m args below meth c H locs 0 0 Q (F0 m 15 ls [.int y3, .ref h0]) := by
    intro y3 H locs ls ey3 hP hD hS hl
    refine va_put (D := D) (ci := 7) (v := .int y3) (ty := .int) (C := RX7) (T := TX7) (N := 7) hx hb hts hi7 tyX7 tyX7_ok nmX7 hown hK hP hD hS 0 rfl rfl 6 (by decide) (hts (.fieldLink RX7 30 "GridInverterModel" "thrown" "I") (by decide +kernel)) (fun _ h9 => h9) rfl (by decide +kernel) rfl rfl (Nat.le_of_ble_eq_true rfl) dX7_setLoad_15 (fun H locs hP hD hS => ?_)
    have hP : va_P D vwCl [(h0, .inr (7, [.ref h1, .long me, .ref h2, .ref h3, .ref h4, .ref h5, .int y3])), (h1, .inl (cI, 165, .inl f))] H := hP
    have hD : va_D A [(h0, .inr (7, [.ref h1, .long me, .ref h2, .ref h3, .ref h4, .ref h5, .int y3])), (h1, .inl (cI, 165, .inl f))] := hD
    refine lv_aload_n hx hb dX7_setLoad_18 rfl (lv_at hl 0 rfl) ?_
    refine va_get (D := D) (ci := 7) (v := .int y3) (C := RX7) (T := TX7) (N := 7) hx hb hts hi7 hown hK hP 0 rfl rfl 6 (by decide) (hts (.fieldLink RX7 30 "GridInverterModel" "thrown" "I") (by decide +kernel)) (fun _ h9 => h9) rfl dX7_setLoad_19 ?_
    have K32 : ∀ (y6 : Nat → Int32) (H : Heap) (locs : List Loc) (ls : Array Slot), y6 = (if (if (r_X7_isIsland p0 p1 p2) = 0 then 1 else 0 : Int32) = 0 then (a_h1_X7_becomeIsland f p0 p1 p2) else f : Nat → Int32) → va_P D vwCl [(h0, .inr (7, [.ref h1, .long me, .ref h2, .ref h3, .ref h4, .ref h5, .int y3])), (h1, .inl (cI, 165, .inl y6))] H → va_D A [(h0, .inr (7, [.ref h1, .long me, .ref h2, .ref h3, .ref h4, .ref h5, .int y3])), (h1, .inl (cI, 165, .inl y6))] → va_S A s.heap H locs → lv_has ls 4 [(0, .ref h0), (1, .int p0), (2, .int p1), (3, .int p2)] → W p l e ({ frames := 2, cells := 0, slots := 0, locals := 44 } : Room) s m args below meth c H locs 0 0 Q (F0 m 32 ls []) := by
      intro y6 H locs ls ey6 hP hD hS hl
      exact hret () _ _ _ _ _ _ _ (by subst ey3; subst ey6; first | with_reducible rfl | (simp only [v_h0_thrown_X7_setLoad, a_h1_X7_setLoad]; done) | rfl) hP hD hS (Nat.le_of_ble_eq_true rfl) (Nat.le_of_ble_eq_true rfl) dX7_setLoad_32
    refine lv_if_ne (tgt := 32) hx hb dX7_setLoad_22 (by decide) (fun c5 => ?_) (fun c5 => ?_)
    · exact K32 _ _ _ _ (by subst ey3; first | with_reducible rfl | (simp only [if_neg c5]; done) | rfl) (hP.sub [0, 1] rfl) (hD.sub [0, 1] (by decide) rfl) hS (lv_sub hl [0, 1, 2, 3] rfl)
    · refine lv_aload_n hx hb dX7_setLoad_25 rfl (lv_at hl 0 rfl) ?_
      refine lv_iload_n hx hb dX7_setLoad_26 rfl (lv_at hl 1 rfl) ?_
      refine lv_iload_n hx hb dX7_setLoad_27 rfl (lv_at hl 2 rfl) ?_
      refine lv_iload_n hx hb dX7_setLoad_28 rfl (lv_at hl 3 rfl) ?_
      refine call_v (wr := []) (k := 0) (n := 0) (run_V (As := [.int p0, .int p1, .int p2]) (rest := []) ⟨hx, hb, hml, hown, hts⟩ (mX7_becomeIsland l D cI cJ cZ cO h0 h1 h2 h3 h4 h5 me y3 f p0 p1 p2 H.size) (cwV 3 hts gX7_setLoad_X7_becomeIsland rfl rfl rfl (by decide +kernel) ⟨Nat.le_of_ble_eq_true rfl, Nat.le_of_ble_eq_true rfl⟩) hK hN hP hD [0, 1] (by decide) rfl 7 0 rfl rfl rfl rfl rfl hl.1 (Nat.le_of_ble_eq_true rfl) dX7_setLoad_29 ⟨Nat.le_of_ble_eq_true rfl, Nat.le_of_ble_eq_true rfl⟩) hP hD hS hA [0, 1] [] rfl rfl (by decide) (by decide) (Nat.le_of_ble_eq_true rfl) (Nat.le_of_ble_eq_true rfl) (fun _ H locs hP hD hS => ?_)
      obtain ⟨x7, ex7⟩ : ∃ zz_, zz_ = (a_h1_X7_becomeIsland f p0 p1 p2) := ⟨_, rfl⟩
      have hP : va_P D vwCl [(h0, .inr (7, [.ref h1, .long me, .ref h2, .ref h3, .ref h4, .ref h5, .int y3])), (h1, .inl (cI, 165, .inl x7))] H := by rw [ex7]; exact hP
      have hD : va_D A [(h0, .inr (7, [.ref h1, .long me, .ref h2, .ref h3, .ref h4, .ref h5, .int y3])), (h1, .inl (cI, 165, .inl x7))] := by rw [ex7]; exact hD
      exact K32 _ _ _ _ (by subst ey3; subst ex7; first | with_reducible rfl | (simp only [if_pos c5]; done) | rfl) (hP.sub [0, 1] rfl) (hD.sub [0, 1] (by decide) rfl) hS (lv_sub hl [0, 1, 2, 3] rfl)
  refine lv_if_eq (tgt := 14) hx hb dX7_setLoad_7 (by decide) (fun c2 => ?_) (fun c2 => ?_)
  · refine lv_iconst (v := 1) hx hb dX7_setLoad_14 (by decide) ?_
    exact K15 _ _ _ _ (by first | with_reducible rfl | (simp only [if_pos c2]; done) | rfl) (hP.sub [0, 1] rfl) (hD.sub [0, 1] (by decide) rfl) hS (lv_sub hl [0, 1, 2, 3] rfl)
  · refine lv_iconst (v := 0) hx hb dX7_setLoad_10 (by decide) ?_
    refine lv_goto (tgt := 15) hx hb dX7_setLoad_11 (by decide) ?_
    exact K15 _ _ _ _ (by first | with_reducible rfl | (simp only [if_neg c2]; done) | rfl) (hP.sub [0, 1] rfl) (hD.sub [0, 1] (by decide) rfl) hS (lv_sub hl [0, 1, 2, 3] rfl)

def v_h0_thrown_X7_setLoop (p0 : Int32) (p1 : Int32) : Int32 := (if (r_X7_in p0 1 1000) = 0 then 1 else (if (r_X7_in p1 0 500) = 0 then 1 else 0 : Int32) : Int32)
def a_h1_X7_setLoop (f : Nat → Int32) (p0 : Int32) (p1 : Int32) : Nat → Int32 := (if (if (r_X7_in p0 1 1000) = 0 then 1 else (if (r_X7_in p1 0 500) = 0 then 1 else 0 : Int32) : Int32) = 0 then (upd (upd f 16 p0) 17 p1) else f : Nat → Int32)
set_option maxHeartbeats 4000000 in
set_option maxRecDepth 100000 in
theorem mX7_setLoop (l : Launch) (D : va_G) (cI cJ cZ cO : ClassId) (h0 : Nat) (h1 : Nat) (h2 : Nat) (h3 : Nat) (h4 : Nat) (h5 : Nat) (me : Int64) (tw : Int32) (f : Nat → Int32) (p0 : Int32) (p1 : Int32) : MV l yX7_setLoop wsX7_setLoop ({ frames := 1, cells := 0, slots := 0, locals := 22 } : Room) D (tysK cI cJ cZ cO) [.ref h0, .int p0, .int p1] [(h0, .inr (7, [.ref h1, .long me, .ref h2, .ref h3, .ref h4, .ref h5, .int tw])), (h1, .inl (cI, 165, .inl f))] (fun (_ : Unit) => [(h0, .inr (7, [.ref h1, .long me, .ref h2, .ref h3, .ref h4, .ref h5, .int (v_h0_thrown_X7_setLoop p0 p1)])), (h1, .inl (cI, 165, .inl (a_h1_X7_setLoop f p0 p1)))]) := by
  refine MV.of (cc := cX7_setLoop) (maxL := 3) (by decide) rfl (Nat.le_of_ble_eq_true rfl) ?_
  intro p e s m args below meth c A Q ls H locs B hin hS hP hD hl hret
  obtain ⟨hx, hb, hml, hown, hts, hK, hN, hA, hlocks⟩ := B
  have hi7 : ∀ w ∈ u_ws RX7 TX7 7, w ∈ wsX7_setLoop := by decide +kernel
  have hl : lv_has ls 3 [(0, .ref h0), (1, .int p0), (2, .int p1)] := hl
  refine lv_aload_n hx hb dX7_setLoop_0 rfl (lv_at hl 0 rfl) ?_
  refine lv_iload_n hx hb dX7_setLoop_1 rfl (lv_at hl 1 rfl) ?_
  refine lv_iconst (v := 1) hx hb dX7_setLoop_2 (by decide) ?_
  refine lv_sipush (v := 1000) hx hb dX7_setLoop_3 (by decide) ?_
  refine call_i (wr := [(h0, .inr (7, [.ref h1, .long me, .ref h2, .ref h3, .ref h4, .ref h5, .int tw])), (h1, .inl (cI, 165, .inl f))]) (k := 0) (n := 0) (run_S (As := [.int p0, .int 1, .int 1000]) (rest := [.ref h0]) ⟨hx, hb, hml, hown, hts⟩ (mX7_in l D cI cJ cZ cO p0 1 1000 H.size) (va_cwS 3 hts gX7_setLoop_X7_in rfl rfl rfl (by decide +kernel) ⟨Nat.le_of_ble_eq_true rfl, Nat.le_of_ble_eq_true rfl⟩) hK hN hP hD [] (by decide) rfl rfl rfl hl.1 (Nat.le_of_ble_eq_true rfl) dX7_setLoop_6 ⟨Nat.le_of_ble_eq_true rfl, Nat.le_of_ble_eq_true rfl⟩) hP hD hS hA [] [0, 1] rfl rfl (by decide) (by decide) (Nat.le_of_ble_eq_true rfl) (Nat.le_of_ble_eq_true rfl) (fun H locs hP hD hS => ?_)
  have hP : va_P D vwCl [(h0, .inr (7, [.ref h1, .long me, .ref h2, .ref h3, .ref h4, .ref h5, .int tw])), (h1, .inl (cI, 165, .inl f))] H := hP
  have hD : va_D A [(h0, .inr (7, [.ref h1, .long me, .ref h2, .ref h3, .ref h4, .ref h5, .int tw])), (h1, .inl (cI, 165, .inl f))] := hD
  have K28 : ∀ (y3 : Int32) (H : Heap) (locs : List Loc) (ls : Array Slot), y3 = (if (r_X7_in p0 1 1000) = 0 then 1 else (if (r_X7_in p1 0 500) = 0 then 1 else 0 : Int32) : Int32) → va_P D vwCl [(h0, .inr (7, [.ref h1, .long me, .ref h2, .ref h3, .ref h4, .ref h5, .int tw])), (h1, .inl (cI, 165, .inl f))] H → va_D A [(h0, .inr (7, [.ref h1, .long me, .ref h2, .ref h3, .ref h4, .ref h5, .int tw])), (h1, .inl (cI, 165, .inl f))] → va_S A s.heap H locs → lv_has ls 3 [(0, .ref h0), (1, .int p0), (2, .int p1)] → W p l e ({ frames := 1, cells := 0, slots := 0, locals := 22 } : Room) s m args below meth c H locs 0 0 Q (F0 m 28 ls [.int y3, .ref h0]) := by
    intro y3 H locs ls ey3 hP hD hS hl
    refine va_put (D := D) (ci := 7) (v := .int y3) (ty := .int) (C := RX7) (T := TX7) (N := 7) hx hb hts hi7 tyX7 tyX7_ok nmX7 hown hK hP hD hS 0 rfl rfl 6 (by decide) (hts (.fieldLink RX7 30 "GridInverterModel" "thrown" "I") (by decide +kernel)) (fun _ h9 => h9) rfl (by decide +kernel) rfl rfl (Nat.le_of_ble_eq_true rfl) dX7_setLoop_28 (fun H locs hP hD hS => ?_)
    have hP : va_P D vwCl [(h0, .inr (7, [.ref h1, .long me, .ref h2, .ref h3, .ref h4, .ref h5, .int y3])), (h1, .inl (cI, 165, .inl f))] H := hP
    have hD : va_D A [(h0, .inr (7, [.ref h1, .long me, .ref h2, .ref h3, .ref h4, .ref h5, .int y3])), (h1, .inl (cI, 165, .inl f))] := hD
    refine lv_aload_n hx hb dX7_setLoop_31 rfl (lv_at hl 0 rfl) ?_
    refine va_get (D := D) (ci := 7) (v := .int y3) (C := RX7) (T := TX7) (N := 7) hx hb hts hi7 hown hK hP 0 rfl rfl 6 (by decide) (hts (.fieldLink RX7 30 "GridInverterModel" "thrown" "I") (by decide +kernel)) (fun _ h9 => h9) rfl dX7_setLoop_32 ?_
    have K54 : ∀ (y6 : Nat → Int32) (H : Heap) (locs : List Loc) (ls : Array Slot), y6 = (if (if (r_X7_in p0 1 1000) = 0 then 1 else (if (r_X7_in p1 0 500) = 0 then 1 else 0 : Int32) : Int32) = 0 then (upd (upd f 16 p0) 17 p1) else f : Nat → Int32) → va_P D vwCl [(h0, .inr (7, [.ref h1, .long me, .ref h2, .ref h3, .ref h4, .ref h5, .int y3])), (h1, .inl (cI, 165, .inl y6))] H → va_D A [(h0, .inr (7, [.ref h1, .long me, .ref h2, .ref h3, .ref h4, .ref h5, .int y3])), (h1, .inl (cI, 165, .inl y6))] → va_S A s.heap H locs → lv_has ls 3 [(0, .ref h0), (1, .int p0), (2, .int p1)] → W p l e ({ frames := 1, cells := 0, slots := 0, locals := 22 } : Room) s m args below meth c H locs 0 0 Q (F0 m 54 ls []) := by
      intro y6 H locs ls ey6 hP hD hS hl
      exact hret () _ _ _ _ _ _ _ (by subst ey3; subst ey6; first | with_reducible rfl | (simp only [v_h0_thrown_X7_setLoop, a_h1_X7_setLoop]; done) | rfl) hP hD hS (Nat.le_of_ble_eq_true rfl) (Nat.le_of_ble_eq_true rfl) dX7_setLoop_54
    refine lv_if_ne (tgt := 54) hx hb dX7_setLoop_35 (by decide) (fun c5 => ?_) (fun c5 => ?_)
    · exact K54 _ _ _ _ (by subst ey3; first | with_reducible rfl | (simp only [if_neg c5]; done) | rfl) (hP.sub [0, 1] rfl) (hD.sub [0, 1] (by decide) rfl) hS (lv_sub hl [0, 1, 2] rfl)
    · refine lv_aload_n hx hb dX7_setLoop_38 rfl (lv_at hl 0 rfl) ?_
      refine va_get (D := D) (ci := 7) (v := .ref h1) (C := RX7) (T := TX7) (N := 7) hx hb hts hi7 hown hK hP 0 rfl rfl 0 (by decide) (hts (.fieldLink RX7 7 "GridInverterModel" "at" "[I") (by decide +kernel)) (fun _ h9 => h9) rfl dX7_setLoop_39 ?_
      refine lv_bipush (v := 16) hx hb dX7_setLoop_42 (by decide) ?_
      refine lv_iload_n hx hb dX7_setLoop_44 rfl (lv_at hl 1 rfl) ?_
      refine r_ast hx hb hK hP hD hS 1 0 rfl rfl 16 rfl (Nat.le_of_ble_eq_true rfl) (Nat.le_of_ble_eq_true rfl) dX7_setLoop_45 (fun H locs hP hD hS => ?_)
      have hP : va_P D vwCl [(h0, .inr (7, [.ref h1, .long me, .ref h2, .ref h3, .ref h4, .ref h5, .int y3])), (h1, .inl (cI, 165, .inl (upd f 16 p0)))] H := hP
      have hD : va_D A [(h0, .inr (7, [.ref h1, .long me, .ref h2, .ref h3, .ref h4, .ref h5, .int y3])), (h1, .inl (cI, 165, .inl (upd f 16 p0)))] := hD
      refine lv_aload_n hx hb dX7_setLoop_46 rfl (lv_at hl 0 rfl) ?_
      refine va_get (D := D) (ci := 7) (v := .ref h1) (C := RX7) (T := TX7) (N := 7) hx hb hts hi7 hown hK hP 0 rfl rfl 0 (by decide) (hts (.fieldLink RX7 7 "GridInverterModel" "at" "[I") (by decide +kernel)) (fun _ h9 => h9) rfl dX7_setLoop_47 ?_
      refine lv_bipush (v := 17) hx hb dX7_setLoop_50 (by decide) ?_
      refine lv_iload_n hx hb dX7_setLoop_52 rfl (lv_at hl 2 rfl) ?_
      refine r_ast hx hb hK hP hD hS 1 0 rfl rfl 17 rfl (Nat.le_of_ble_eq_true rfl) (Nat.le_of_ble_eq_true rfl) dX7_setLoop_53 (fun H locs hP hD hS => ?_)
      have hP : va_P D vwCl [(h0, .inr (7, [.ref h1, .long me, .ref h2, .ref h3, .ref h4, .ref h5, .int y3])), (h1, .inl (cI, 165, .inl (upd (upd f 16 p0) 17 p1)))] H := hP
      have hD : va_D A [(h0, .inr (7, [.ref h1, .long me, .ref h2, .ref h3, .ref h4, .ref h5, .int y3])), (h1, .inl (cI, 165, .inl (upd (upd f 16 p0) 17 p1)))] := hD
      exact K54 _ _ _ _ (by subst ey3; first | with_reducible rfl | (simp only [if_pos c5]; done) | rfl) (hP.sub [0, 1] rfl) (hD.sub [0, 1] (by decide) rfl) hS (lv_sub hl [0, 1, 2] rfl)
  refine lv_if_eq (tgt := 27) hx hb dX7_setLoop_9 (by decide) (fun c2 => ?_) (fun c2 => ?_)
  · refine lv_iconst (v := 1) hx hb dX7_setLoop_27 (by decide) ?_
    exact K28 _ _ _ _ (by first | with_reducible rfl | (simp only [if_pos c2]; done) | rfl) (hP.sub [0, 1] rfl) (hD.sub [0, 1] (by decide) rfl) hS (lv_sub hl [0, 1, 2] rfl)
  · refine lv_iload_n hx hb dX7_setLoop_12 rfl (lv_at hl 2 rfl) ?_
    refine lv_iconst (v := 0) hx hb dX7_setLoop_13 (by decide) ?_
    refine lv_sipush (v := 500) hx hb dX7_setLoop_14 (by decide) ?_
    refine call_i (wr := [(h0, .inr (7, [.ref h1, .long me, .ref h2, .ref h3, .ref h4, .ref h5, .int tw])), (h1, .inl (cI, 165, .inl f))]) (k := 0) (n := 0) (run_S (As := [.int p1, .int 0, .int 500]) (rest := [.ref h0]) ⟨hx, hb, hml, hown, hts⟩ (mX7_in l D cI cJ cZ cO p1 0 500 H.size) (va_cwS 3 hts gX7_setLoop_X7_in rfl rfl rfl (by decide +kernel) ⟨Nat.le_of_ble_eq_true rfl, Nat.le_of_ble_eq_true rfl⟩) hK hN hP hD [] (by decide) rfl rfl rfl hl.1 (Nat.le_of_ble_eq_true rfl) dX7_setLoop_17 ⟨Nat.le_of_ble_eq_true rfl, Nat.le_of_ble_eq_true rfl⟩) hP hD hS hA [] [0, 1] rfl rfl (by decide) (by decide) (Nat.le_of_ble_eq_true rfl) (Nat.le_of_ble_eq_true rfl) (fun H locs hP hD hS => ?_)
    have hP : va_P D vwCl [(h0, .inr (7, [.ref h1, .long me, .ref h2, .ref h3, .ref h4, .ref h5, .int tw])), (h1, .inl (cI, 165, .inl f))] H := hP
    have hD : va_D A [(h0, .inr (7, [.ref h1, .long me, .ref h2, .ref h3, .ref h4, .ref h5, .int tw])), (h1, .inl (cI, 165, .inl f))] := hD
    refine lv_if_eq (tgt := 27) hx hb dX7_setLoop_20 (by decide) (fun c8 => ?_) (fun c8 => ?_)
    · refine lv_iconst (v := 1) hx hb dX7_setLoop_27 (by decide) ?_
      exact K28 _ _ _ _ (by first | with_reducible rfl | (simp only [if_neg c2, if_pos c8]; done) | rfl) (hP.sub [0, 1] rfl) (hD.sub [0, 1] (by decide) rfl) hS (lv_sub hl [0, 1, 2] rfl)
    · refine lv_iconst (v := 0) hx hb dX7_setLoop_23 (by decide) ?_
      refine lv_goto (tgt := 28) hx hb dX7_setLoop_24 (by decide) ?_
      exact K28 _ _ _ _ (by first | with_reducible rfl | (simp only [if_neg c2, if_neg c8]; done) | rfl) (hP.sub [0, 1] rfl) (hD.sub [0, 1] (by decide) rfl) hS (lv_sub hl [0, 1, 2] rfl)

def v_h0_thrown_X7_setLock (p0 : Int32) (p1 : Int32) : Int32 := (if (r_X7_in p0 100 100000) = 0 then 1 else (if (r_X7_in p1 1 500) = 0 then 1 else 0 : Int32) : Int32)
def a_h1_X7_setLock (f : Nat → Int32) (p0 : Int32) (p1 : Int32) : Nat → Int32 := (if (if (r_X7_in p0 100 100000) = 0 then 1 else (if (r_X7_in p1 1 500) = 0 then 1 else 0 : Int32) : Int32) = 0 then (upd (upd f 18 p0) 19 p1) else f : Nat → Int32)
set_option maxHeartbeats 4000000 in
set_option maxRecDepth 100000 in
theorem mX7_setLock (l : Launch) (D : va_G) (cI cJ cZ cO : ClassId) (h0 : Nat) (h1 : Nat) (h2 : Nat) (h3 : Nat) (h4 : Nat) (h5 : Nat) (me : Int64) (tw : Int32) (f : Nat → Int32) (p0 : Int32) (p1 : Int32) : MV l yX7_setLock wsX7_setLock ({ frames := 1, cells := 0, slots := 0, locals := 22 } : Room) D (tysK cI cJ cZ cO) [.ref h0, .int p0, .int p1] [(h0, .inr (7, [.ref h1, .long me, .ref h2, .ref h3, .ref h4, .ref h5, .int tw])), (h1, .inl (cI, 165, .inl f))] (fun (_ : Unit) => [(h0, .inr (7, [.ref h1, .long me, .ref h2, .ref h3, .ref h4, .ref h5, .int (v_h0_thrown_X7_setLock p0 p1)])), (h1, .inl (cI, 165, .inl (a_h1_X7_setLock f p0 p1)))]) := by
  refine MV.of (cc := cX7_setLock) (maxL := 3) (by decide) rfl (Nat.le_of_ble_eq_true rfl) ?_
  intro p e s m args below meth c A Q ls H locs B hin hS hP hD hl hret
  obtain ⟨hx, hb, hml, hown, hts, hK, hN, hA, hlocks⟩ := B
  have hi7 : ∀ w ∈ u_ws RX7 TX7 7, w ∈ wsX7_setLock := by decide +kernel
  have hl : lv_has ls 3 [(0, .ref h0), (1, .int p0), (2, .int p1)] := hl
  refine lv_aload_n hx hb dX7_setLock_0 rfl (lv_at hl 0 rfl) ?_
  refine lv_iload_n hx hb dX7_setLock_1 rfl (lv_at hl 1 rfl) ?_
  refine lv_bipush (v := 100) hx hb dX7_setLock_2 (by decide) ?_
  refine lv_ldc hx hb hown (hts (.constant RX7 54 (100000)) (by decide +kernel)) dX7_setLock_4 ?_
  refine call_i (wr := [(h0, .inr (7, [.ref h1, .long me, .ref h2, .ref h3, .ref h4, .ref h5, .int tw])), (h1, .inl (cI, 165, .inl f))]) (k := 0) (n := 0) (run_S (As := [.int p0, .int 100, .int 100000]) (rest := [.ref h0]) ⟨hx, hb, hml, hown, hts⟩ (mX7_in l D cI cJ cZ cO p0 100 100000 H.size) (va_cwS 3 hts gX7_setLock_X7_in rfl rfl rfl (by decide +kernel) ⟨Nat.le_of_ble_eq_true rfl, Nat.le_of_ble_eq_true rfl⟩) hK hN hP hD [] (by decide) rfl rfl rfl hl.1 (Nat.le_of_ble_eq_true rfl) dX7_setLock_6 ⟨Nat.le_of_ble_eq_true rfl, Nat.le_of_ble_eq_true rfl⟩) hP hD hS hA [] [0, 1] rfl rfl (by decide) (by decide) (Nat.le_of_ble_eq_true rfl) (Nat.le_of_ble_eq_true rfl) (fun H locs hP hD hS => ?_)
  have hP : va_P D vwCl [(h0, .inr (7, [.ref h1, .long me, .ref h2, .ref h3, .ref h4, .ref h5, .int tw])), (h1, .inl (cI, 165, .inl f))] H := hP
  have hD : va_D A [(h0, .inr (7, [.ref h1, .long me, .ref h2, .ref h3, .ref h4, .ref h5, .int tw])), (h1, .inl (cI, 165, .inl f))] := hD
  have K28 : ∀ (y3 : Int32) (H : Heap) (locs : List Loc) (ls : Array Slot), y3 = (if (r_X7_in p0 100 100000) = 0 then 1 else (if (r_X7_in p1 1 500) = 0 then 1 else 0 : Int32) : Int32) → va_P D vwCl [(h0, .inr (7, [.ref h1, .long me, .ref h2, .ref h3, .ref h4, .ref h5, .int tw])), (h1, .inl (cI, 165, .inl f))] H → va_D A [(h0, .inr (7, [.ref h1, .long me, .ref h2, .ref h3, .ref h4, .ref h5, .int tw])), (h1, .inl (cI, 165, .inl f))] → va_S A s.heap H locs → lv_has ls 3 [(0, .ref h0), (1, .int p0), (2, .int p1)] → W p l e ({ frames := 1, cells := 0, slots := 0, locals := 22 } : Room) s m args below meth c H locs 0 0 Q (F0 m 28 ls [.int y3, .ref h0]) := by
    intro y3 H locs ls ey3 hP hD hS hl
    refine va_put (D := D) (ci := 7) (v := .int y3) (ty := .int) (C := RX7) (T := TX7) (N := 7) hx hb hts hi7 tyX7 tyX7_ok nmX7 hown hK hP hD hS 0 rfl rfl 6 (by decide) (hts (.fieldLink RX7 30 "GridInverterModel" "thrown" "I") (by decide +kernel)) (fun _ h9 => h9) rfl (by decide +kernel) rfl rfl (Nat.le_of_ble_eq_true rfl) dX7_setLock_28 (fun H locs hP hD hS => ?_)
    have hP : va_P D vwCl [(h0, .inr (7, [.ref h1, .long me, .ref h2, .ref h3, .ref h4, .ref h5, .int y3])), (h1, .inl (cI, 165, .inl f))] H := hP
    have hD : va_D A [(h0, .inr (7, [.ref h1, .long me, .ref h2, .ref h3, .ref h4, .ref h5, .int y3])), (h1, .inl (cI, 165, .inl f))] := hD
    refine lv_aload_n hx hb dX7_setLock_31 rfl (lv_at hl 0 rfl) ?_
    refine va_get (D := D) (ci := 7) (v := .int y3) (C := RX7) (T := TX7) (N := 7) hx hb hts hi7 hown hK hP 0 rfl rfl 6 (by decide) (hts (.fieldLink RX7 30 "GridInverterModel" "thrown" "I") (by decide +kernel)) (fun _ h9 => h9) rfl dX7_setLock_32 ?_
    have K54 : ∀ (y6 : Nat → Int32) (H : Heap) (locs : List Loc) (ls : Array Slot), y6 = (if (if (r_X7_in p0 100 100000) = 0 then 1 else (if (r_X7_in p1 1 500) = 0 then 1 else 0 : Int32) : Int32) = 0 then (upd (upd f 18 p0) 19 p1) else f : Nat → Int32) → va_P D vwCl [(h0, .inr (7, [.ref h1, .long me, .ref h2, .ref h3, .ref h4, .ref h5, .int y3])), (h1, .inl (cI, 165, .inl y6))] H → va_D A [(h0, .inr (7, [.ref h1, .long me, .ref h2, .ref h3, .ref h4, .ref h5, .int y3])), (h1, .inl (cI, 165, .inl y6))] → va_S A s.heap H locs → lv_has ls 3 [(0, .ref h0), (1, .int p0), (2, .int p1)] → W p l e ({ frames := 1, cells := 0, slots := 0, locals := 22 } : Room) s m args below meth c H locs 0 0 Q (F0 m 54 ls []) := by
      intro y6 H locs ls ey6 hP hD hS hl
      exact hret () _ _ _ _ _ _ _ (by subst ey3; subst ey6; first | with_reducible rfl | (simp only [v_h0_thrown_X7_setLock, a_h1_X7_setLock]; done) | rfl) hP hD hS (Nat.le_of_ble_eq_true rfl) (Nat.le_of_ble_eq_true rfl) dX7_setLock_54
    refine lv_if_ne (tgt := 54) hx hb dX7_setLock_35 (by decide) (fun c5 => ?_) (fun c5 => ?_)
    · exact K54 _ _ _ _ (by subst ey3; first | with_reducible rfl | (simp only [if_neg c5]; done) | rfl) (hP.sub [0, 1] rfl) (hD.sub [0, 1] (by decide) rfl) hS (lv_sub hl [0, 1, 2] rfl)
    · refine lv_aload_n hx hb dX7_setLock_38 rfl (lv_at hl 0 rfl) ?_
      refine va_get (D := D) (ci := 7) (v := .ref h1) (C := RX7) (T := TX7) (N := 7) hx hb hts hi7 hown hK hP 0 rfl rfl 0 (by decide) (hts (.fieldLink RX7 7 "GridInverterModel" "at" "[I") (by decide +kernel)) (fun _ h9 => h9) rfl dX7_setLock_39 ?_
      refine lv_bipush (v := 18) hx hb dX7_setLock_42 (by decide) ?_
      refine lv_iload_n hx hb dX7_setLock_44 rfl (lv_at hl 1 rfl) ?_
      refine r_ast hx hb hK hP hD hS 1 0 rfl rfl 18 rfl (Nat.le_of_ble_eq_true rfl) (Nat.le_of_ble_eq_true rfl) dX7_setLock_45 (fun H locs hP hD hS => ?_)
      have hP : va_P D vwCl [(h0, .inr (7, [.ref h1, .long me, .ref h2, .ref h3, .ref h4, .ref h5, .int y3])), (h1, .inl (cI, 165, .inl (upd f 18 p0)))] H := hP
      have hD : va_D A [(h0, .inr (7, [.ref h1, .long me, .ref h2, .ref h3, .ref h4, .ref h5, .int y3])), (h1, .inl (cI, 165, .inl (upd f 18 p0)))] := hD
      refine lv_aload_n hx hb dX7_setLock_46 rfl (lv_at hl 0 rfl) ?_
      refine va_get (D := D) (ci := 7) (v := .ref h1) (C := RX7) (T := TX7) (N := 7) hx hb hts hi7 hown hK hP 0 rfl rfl 0 (by decide) (hts (.fieldLink RX7 7 "GridInverterModel" "at" "[I") (by decide +kernel)) (fun _ h9 => h9) rfl dX7_setLock_47 ?_
      refine lv_bipush (v := 19) hx hb dX7_setLock_50 (by decide) ?_
      refine lv_iload_n hx hb dX7_setLock_52 rfl (lv_at hl 2 rfl) ?_
      refine r_ast hx hb hK hP hD hS 1 0 rfl rfl 19 rfl (Nat.le_of_ble_eq_true rfl) (Nat.le_of_ble_eq_true rfl) dX7_setLock_53 (fun H locs hP hD hS => ?_)
      have hP : va_P D vwCl [(h0, .inr (7, [.ref h1, .long me, .ref h2, .ref h3, .ref h4, .ref h5, .int y3])), (h1, .inl (cI, 165, .inl (upd (upd f 18 p0) 19 p1)))] H := hP
      have hD : va_D A [(h0, .inr (7, [.ref h1, .long me, .ref h2, .ref h3, .ref h4, .ref h5, .int y3])), (h1, .inl (cI, 165, .inl (upd (upd f 18 p0) 19 p1)))] := hD
      exact K54 _ _ _ _ (by subst ey3; first | with_reducible rfl | (simp only [if_pos c5]; done) | rfl) (hP.sub [0, 1] rfl) (hD.sub [0, 1] (by decide) rfl) hS (lv_sub hl [0, 1, 2] rfl)
  refine lv_if_eq (tgt := 27) hx hb dX7_setLock_9 (by decide) (fun c2 => ?_) (fun c2 => ?_)
  · refine lv_iconst (v := 1) hx hb dX7_setLock_27 (by decide) ?_
    exact K28 _ _ _ _ (by first | with_reducible rfl | (simp only [if_pos c2]; done) | rfl) (hP.sub [0, 1] rfl) (hD.sub [0, 1] (by decide) rfl) hS (lv_sub hl [0, 1, 2] rfl)
  · refine lv_iload_n hx hb dX7_setLock_12 rfl (lv_at hl 2 rfl) ?_
    refine lv_iconst (v := 1) hx hb dX7_setLock_13 (by decide) ?_
    refine lv_sipush (v := 500) hx hb dX7_setLock_14 (by decide) ?_
    refine call_i (wr := [(h0, .inr (7, [.ref h1, .long me, .ref h2, .ref h3, .ref h4, .ref h5, .int tw])), (h1, .inl (cI, 165, .inl f))]) (k := 0) (n := 0) (run_S (As := [.int p1, .int 1, .int 500]) (rest := [.ref h0]) ⟨hx, hb, hml, hown, hts⟩ (mX7_in l D cI cJ cZ cO p1 1 500 H.size) (va_cwS 3 hts gX7_setLock_X7_in rfl rfl rfl (by decide +kernel) ⟨Nat.le_of_ble_eq_true rfl, Nat.le_of_ble_eq_true rfl⟩) hK hN hP hD [] (by decide) rfl rfl rfl hl.1 (Nat.le_of_ble_eq_true rfl) dX7_setLock_17 ⟨Nat.le_of_ble_eq_true rfl, Nat.le_of_ble_eq_true rfl⟩) hP hD hS hA [] [0, 1] rfl rfl (by decide) (by decide) (Nat.le_of_ble_eq_true rfl) (Nat.le_of_ble_eq_true rfl) (fun H locs hP hD hS => ?_)
    have hP : va_P D vwCl [(h0, .inr (7, [.ref h1, .long me, .ref h2, .ref h3, .ref h4, .ref h5, .int tw])), (h1, .inl (cI, 165, .inl f))] H := hP
    have hD : va_D A [(h0, .inr (7, [.ref h1, .long me, .ref h2, .ref h3, .ref h4, .ref h5, .int tw])), (h1, .inl (cI, 165, .inl f))] := hD
    refine lv_if_eq (tgt := 27) hx hb dX7_setLock_20 (by decide) (fun c8 => ?_) (fun c8 => ?_)
    · refine lv_iconst (v := 1) hx hb dX7_setLock_27 (by decide) ?_
      exact K28 _ _ _ _ (by first | with_reducible rfl | (simp only [if_neg c2, if_pos c8]; done) | rfl) (hP.sub [0, 1] rfl) (hD.sub [0, 1] (by decide) rfl) hS (lv_sub hl [0, 1, 2] rfl)
    · refine lv_iconst (v := 0) hx hb dX7_setLock_23 (by decide) ?_
      refine lv_goto (tgt := 28) hx hb dX7_setLock_24 (by decide) ?_
      exact K28 _ _ _ _ (by first | with_reducible rfl | (simp only [if_neg c2, if_neg c8]; done) | rfl) (hP.sub [0, 1] rfl) (hD.sub [0, 1] (by decide) rfl) hS (lv_sub hl [0, 1, 2] rfl)

def v_h0_thrown_X7_setWindow (p0 : Int32) (p1 : Int32) (p2 : Int32) (p3 : Int32) : Int32 := (if (if (r_X7_in p0 0 400) = 0 then 0 else (if (r_X7_in p1 p0 400) = 0 then 0 else (if (r_X7_in p2 40000 70000) = 0 then 0 else (if (r_X7_in p3 p2 70000) = 0 then 0 else 1 : Int32) : Int32) : Int32) : Int32) = 0 then 1 else 0 : Int32)
def a_h1_X7_setWindow (f : Nat → Int32) (p0 : Int32) (p1 : Int32) (p2 : Int32) (p3 : Int32) : Nat → Int32 := (if (if (r_X7_in p0 0 400) = 0 then 0 else (if (r_X7_in p1 p0 400) = 0 then 0 else (if (r_X7_in p2 40000 70000) = 0 then 0 else (if (r_X7_in p3 p2 70000) = 0 then 0 else 1 : Int32) : Int32) : Int32) : Int32) = 0 then f else (upd (upd (upd (upd f 24 p0) 25 p1) 26 p2) 27 p3) : Nat → Int32)
set_option maxHeartbeats 4000000 in
set_option maxRecDepth 100000 in
theorem mX7_setWindow (l : Launch) (D : va_G) (cI cJ cZ cO : ClassId) (h0 : Nat) (h1 : Nat) (h2 : Nat) (h3 : Nat) (h4 : Nat) (h5 : Nat) (me : Int64) (tw : Int32) (f : Nat → Int32) (p0 : Int32) (p1 : Int32) (p2 : Int32) (p3 : Int32) : MV l yX7_setWindow wsX7_setWindow ({ frames := 1, cells := 0, slots := 0, locals := 22 } : Room) D (tysK cI cJ cZ cO) [.ref h0, .int p0, .int p1, .int p2, .int p3] [(h0, .inr (7, [.ref h1, .long me, .ref h2, .ref h3, .ref h4, .ref h5, .int tw])), (h1, .inl (cI, 165, .inl f))] (fun (_ : Unit) => [(h0, .inr (7, [.ref h1, .long me, .ref h2, .ref h3, .ref h4, .ref h5, .int (v_h0_thrown_X7_setWindow p0 p1 p2 p3)])), (h1, .inl (cI, 165, .inl (a_h1_X7_setWindow f p0 p1 p2 p3)))]) := by
  refine MV.of (cc := cX7_setWindow) (maxL := 6) (by decide) rfl (Nat.le_of_ble_eq_true rfl) ?_
  intro p e s m args below meth c A Q ls H locs B hin hS hP hD hl hret
  obtain ⟨hx, hb, hml, hown, hts, hK, hN, hA, hlocks⟩ := B
  have hi7 : ∀ w ∈ u_ws RX7 TX7 7, w ∈ wsX7_setWindow := by decide +kernel
  have hl : lv_has ls 6 [(0, .ref h0), (1, .int p0), (2, .int p1), (3, .int p2), (4, .int p3)] := hl
  refine lv_iload_n hx hb dX7_setWindow_0 rfl (lv_at hl 1 rfl) ?_
  refine lv_iconst (v := 0) hx hb dX7_setWindow_1 (by decide) ?_
  refine lv_sipush (v := 400) hx hb dX7_setWindow_2 (by decide) ?_
  refine call_i (wr := [(h0, .inr (7, [.ref h1, .long me, .ref h2, .ref h3, .ref h4, .ref h5, .int tw])), (h1, .inl (cI, 165, .inl f))]) (k := 0) (n := 0) (run_S (As := [.int p0, .int 0, .int 400]) (rest := []) ⟨hx, hb, hml, hown, hts⟩ (mX7_in l D cI cJ cZ cO p0 0 400 H.size) (va_cwS 3 hts gX7_setWindow_X7_in rfl rfl rfl (by decide +kernel) ⟨Nat.le_of_ble_eq_true rfl, Nat.le_of_ble_eq_true rfl⟩) hK hN hP hD [] (by decide) rfl rfl rfl hl.1 (Nat.le_of_ble_eq_true rfl) dX7_setWindow_5 ⟨Nat.le_of_ble_eq_true rfl, Nat.le_of_ble_eq_true rfl⟩) hP hD hS hA [] [0, 1] rfl rfl (by decide) (by decide) (Nat.le_of_ble_eq_true rfl) (Nat.le_of_ble_eq_true rfl) (fun H locs hP hD hS => ?_)
  have hP : va_P D vwCl [(h0, .inr (7, [.ref h1, .long me, .ref h2, .ref h3, .ref h4, .ref h5, .int tw])), (h1, .inl (cI, 165, .inl f))] H := hP
  have hD : va_D A [(h0, .inr (7, [.ref h1, .long me, .ref h2, .ref h3, .ref h4, .ref h5, .int tw])), (h1, .inl (cI, 165, .inl f))] := hD
  have K49 : ∀ (y3 : Int32) (H : Heap) (locs : List Loc) (ls : Array Slot), y3 = (if (r_X7_in p0 0 400) = 0 then 0 else (if (r_X7_in p1 p0 400) = 0 then 0 else (if (r_X7_in p2 40000 70000) = 0 then 0 else (if (r_X7_in p3 p2 70000) = 0 then 0 else 1 : Int32) : Int32) : Int32) : Int32) → va_P D vwCl [(h0, .inr (7, [.ref h1, .long me, .ref h2, .ref h3, .ref h4, .ref h5, .int tw])), (h1, .inl (cI, 165, .inl f))] H → va_D A [(h0, .inr (7, [.ref h1, .long me, .ref h2, .ref h3, .ref h4, .ref h5, .int tw])), (h1, .inl (cI, 165, .inl f))] → va_S A s.heap H locs → lv_has ls 6 [(0, .ref h0), (1, .int p0), (2, .int p1), (3, .int p2), (4, .int p3)] → W p l e ({ frames := 1, cells := 0, slots := 0, locals := 22 } : Room) s m args below meth c H locs 0 0 Q (F0 m 49 ls [.int y3]) := by
    intro y3 H locs ls ey3 hP hD hS hl
    refine lv_istore (lv' := [(5, .int y3), (0, .ref h0), (1, .int p0), (2, .int p1), (3, .int p2), (4, .int p3)]) hx hb dX7_setWindow_49 hl (by decide) rfl (fun ls hl => ?_)
    refine lv_aload_n hx hb dX7_setWindow_51 rfl (lv_at hl 1 rfl) ?_
    refine lv_iload hx hb dX7_setWindow_52 (lv_at hl 0 rfl) ?_
    have K62 : ∀ (y6 : Int32) (H : Heap) (locs : List Loc) (ls : Array Slot), y6 = (if (if (r_X7_in p0 0 400) = 0 then 0 else (if (r_X7_in p1 p0 400) = 0 then 0 else (if (r_X7_in p2 40000 70000) = 0 then 0 else (if (r_X7_in p3 p2 70000) = 0 then 0 else 1 : Int32) : Int32) : Int32) : Int32) = 0 then 1 else 0 : Int32) → va_P D vwCl [(h0, .inr (7, [.ref h1, .long me, .ref h2, .ref h3, .ref h4, .ref h5, .int tw])), (h1, .inl (cI, 165, .inl f))] H → va_D A [(h0, .inr (7, [.ref h1, .long me, .ref h2, .ref h3, .ref h4, .ref h5, .int tw])), (h1, .inl (cI, 165, .inl f))] → va_S A s.heap H locs → lv_has ls 6 [(0, .ref h0), (1, .int p0), (2, .int p1), (3, .int p2), (4, .int p3), (5, .int y3)] → W p l e ({ frames := 1, cells := 0, slots := 0, locals := 22 } : Room) s m args below meth c H locs 0 0 Q (F0 m 62 ls [.int y6, .ref h0]) := by
      intro y6 H locs ls ey6 hP hD hS hl
      refine va_put (D := D) (ci := 7) (v := .int y6) (ty := .int) (C := RX7) (T := TX7) (N := 7) hx hb hts hi7 tyX7 tyX7_ok nmX7 hown hK hP hD hS 0 rfl rfl 6 (by decide) (hts (.fieldLink RX7 30 "GridInverterModel" "thrown" "I") (by decide +kernel)) (fun _ h9 => h9) rfl (by decide +kernel) rfl rfl (Nat.le_of_ble_eq_true rfl) dX7_setWindow_62 (fun H locs hP hD hS => ?_)
      have hP : va_P D vwCl [(h0, .inr (7, [.ref h1, .long me, .ref h2, .ref h3, .ref h4, .ref h5, .int y6])), (h1, .inl (cI, 165, .inl f))] H := hP
      have hD : va_D A [(h0, .inr (7, [.ref h1, .long me, .ref h2, .ref h3, .ref h4, .ref h5, .int y6])), (h1, .inl (cI, 165, .inl f))] := hD
      refine lv_iload hx hb dX7_setWindow_65 (lv_at hl 5 rfl) ?_
      have K103 : ∀ (y9 : Nat → Int32) (H : Heap) (locs : List Loc) (ls : Array Slot), y9 = (if (if (r_X7_in p0 0 400) = 0 then 0 else (if (r_X7_in p1 p0 400) = 0 then 0 else (if (r_X7_in p2 40000 70000) = 0 then 0 else (if (r_X7_in p3 p2 70000) = 0 then 0 else 1 : Int32) : Int32) : Int32) : Int32) = 0 then f else (upd (upd (upd (upd f 24 p0) 25 p1) 26 p2) 27 p3) : Nat → Int32) → va_P D vwCl [(h0, .inr (7, [.ref h1, .long me, .ref h2, .ref h3, .ref h4, .ref h5, .int y6])), (h1, .inl (cI, 165, .inl y9))] H → va_D A [(h0, .inr (7, [.ref h1, .long me, .ref h2, .ref h3, .ref h4, .ref h5, .int y6])), (h1, .inl (cI, 165, .inl y9))] → va_S A s.heap H locs → lv_has ls 6 [(0, .ref h0), (1, .int p0), (2, .int p1), (3, .int p2), (4, .int p3), (5, .int y3)] → W p l e ({ frames := 1, cells := 0, slots := 0, locals := 22 } : Room) s m args below meth c H locs 0 0 Q (F0 m 103 ls []) := by
        intro y9 H locs ls ey9 hP hD hS hl
        exact hret () _ _ _ _ _ _ _ (by subst ey3; subst ey6; subst ey9; first | with_reducible rfl | (simp only [v_h0_thrown_X7_setWindow, a_h1_X7_setWindow]; done) | rfl) hP hD hS (Nat.le_of_ble_eq_true rfl) (Nat.le_of_ble_eq_true rfl) dX7_setWindow_103
      refine lv_if_eq (tgt := 103) hx hb dX7_setWindow_67 (by decide) (fun c8 => ?_) (fun c8 => ?_)
      · exact K103 _ _ _ _ (by subst ey3; subst ey6; first | with_reducible rfl | (simp only [if_pos c8]; done) | rfl) (hP.sub [0, 1] rfl) (hD.sub [0, 1] (by decide) rfl) hS (lv_sub hl [0, 1, 2, 3, 4, 5] rfl)
      · refine lv_aload_n hx hb dX7_setWindow_70 rfl (lv_at hl 0 rfl) ?_
        refine va_get (D := D) (ci := 7) (v := .ref h1) (C := RX7) (T := TX7) (N := 7) hx hb hts hi7 hown hK hP 0 rfl rfl 0 (by decide) (hts (.fieldLink RX7 7 "GridInverterModel" "at" "[I") (by decide +kernel)) (fun _ h9 => h9) rfl dX7_setWindow_71 ?_
        refine lv_bipush (v := 24) hx hb dX7_setWindow_74 (by decide) ?_
        refine lv_iload_n hx hb dX7_setWindow_76 rfl (lv_at hl 1 rfl) ?_
        refine r_ast hx hb hK hP hD hS 1 0 rfl rfl 24 rfl (Nat.le_of_ble_eq_true rfl) (Nat.le_of_ble_eq_true rfl) dX7_setWindow_77 (fun H locs hP hD hS => ?_)
        have hP : va_P D vwCl [(h0, .inr (7, [.ref h1, .long me, .ref h2, .ref h3, .ref h4, .ref h5, .int y6])), (h1, .inl (cI, 165, .inl (upd f 24 p0)))] H := hP
        have hD : va_D A [(h0, .inr (7, [.ref h1, .long me, .ref h2, .ref h3, .ref h4, .ref h5, .int y6])), (h1, .inl (cI, 165, .inl (upd f 24 p0)))] := hD
        refine lv_aload_n hx hb dX7_setWindow_78 rfl (lv_at hl 0 rfl) ?_
        refine va_get (D := D) (ci := 7) (v := .ref h1) (C := RX7) (T := TX7) (N := 7) hx hb hts hi7 hown hK hP 0 rfl rfl 0 (by decide) (hts (.fieldLink RX7 7 "GridInverterModel" "at" "[I") (by decide +kernel)) (fun _ h9 => h9) rfl dX7_setWindow_79 ?_
        refine lv_bipush (v := 25) hx hb dX7_setWindow_82 (by decide) ?_
        refine lv_iload_n hx hb dX7_setWindow_84 rfl (lv_at hl 2 rfl) ?_
        refine r_ast hx hb hK hP hD hS 1 0 rfl rfl 25 rfl (Nat.le_of_ble_eq_true rfl) (Nat.le_of_ble_eq_true rfl) dX7_setWindow_85 (fun H locs hP hD hS => ?_)
        have hP : va_P D vwCl [(h0, .inr (7, [.ref h1, .long me, .ref h2, .ref h3, .ref h4, .ref h5, .int y6])), (h1, .inl (cI, 165, .inl (upd (upd f 24 p0) 25 p1)))] H := hP
        have hD : va_D A [(h0, .inr (7, [.ref h1, .long me, .ref h2, .ref h3, .ref h4, .ref h5, .int y6])), (h1, .inl (cI, 165, .inl (upd (upd f 24 p0) 25 p1)))] := hD
        refine lv_aload_n hx hb dX7_setWindow_86 rfl (lv_at hl 0 rfl) ?_
        refine va_get (D := D) (ci := 7) (v := .ref h1) (C := RX7) (T := TX7) (N := 7) hx hb hts hi7 hown hK hP 0 rfl rfl 0 (by decide) (hts (.fieldLink RX7 7 "GridInverterModel" "at" "[I") (by decide +kernel)) (fun _ h9 => h9) rfl dX7_setWindow_87 ?_
        refine lv_bipush (v := 26) hx hb dX7_setWindow_90 (by decide) ?_
        refine lv_iload_n hx hb dX7_setWindow_92 rfl (lv_at hl 3 rfl) ?_
        refine r_ast hx hb hK hP hD hS 1 0 rfl rfl 26 rfl (Nat.le_of_ble_eq_true rfl) (Nat.le_of_ble_eq_true rfl) dX7_setWindow_93 (fun H locs hP hD hS => ?_)
        obtain ⟨x10, ex10⟩ : ∃ zz_, zz_ = (upd (upd (upd f 24 p0) 25 p1) 26 p2) := ⟨_, rfl⟩
        have hP : va_P D vwCl [(h0, .inr (7, [.ref h1, .long me, .ref h2, .ref h3, .ref h4, .ref h5, .int y6])), (h1, .inl (cI, 165, .inl x10))] H := by rw [ex10]; exact hP
        have hD : va_D A [(h0, .inr (7, [.ref h1, .long me, .ref h2, .ref h3, .ref h4, .ref h5, .int y6])), (h1, .inl (cI, 165, .inl x10))] := by rw [ex10]; exact hD
        refine lv_aload_n hx hb dX7_setWindow_94 rfl (lv_at hl 0 rfl) ?_
        refine va_get (D := D) (ci := 7) (v := .ref h1) (C := RX7) (T := TX7) (N := 7) hx hb hts hi7 hown hK hP 0 rfl rfl 0 (by decide) (hts (.fieldLink RX7 7 "GridInverterModel" "at" "[I") (by decide +kernel)) (fun _ h9 => h9) rfl dX7_setWindow_95 ?_
        refine lv_bipush (v := 27) hx hb dX7_setWindow_98 (by decide) ?_
        refine lv_iload hx hb dX7_setWindow_100 (lv_at hl 4 rfl) ?_
        refine r_ast hx hb hK hP hD hS 1 0 rfl rfl 27 rfl (Nat.le_of_ble_eq_true rfl) (Nat.le_of_ble_eq_true rfl) dX7_setWindow_102 (fun H locs hP hD hS => ?_)
        have hP : va_P D vwCl [(h0, .inr (7, [.ref h1, .long me, .ref h2, .ref h3, .ref h4, .ref h5, .int y6])), (h1, .inl (cI, 165, .inl (upd x10 27 p3)))] H := hP
        have hD : va_D A [(h0, .inr (7, [.ref h1, .long me, .ref h2, .ref h3, .ref h4, .ref h5, .int y6])), (h1, .inl (cI, 165, .inl (upd x10 27 p3)))] := hD
        exact K103 _ _ _ _ (by subst ey3; subst ey6; subst ex10; first | with_reducible rfl | (simp only [if_neg c8]; done) | rfl) (hP.sub [0, 1] rfl) (hD.sub [0, 1] (by decide) rfl) hS (lv_sub hl [0, 1, 2, 3, 4, 5] rfl)
    refine lv_if_eq (tgt := 61) hx hb dX7_setWindow_54 (by decide) (fun c5 => ?_) (fun c5 => ?_)
    · refine lv_iconst (v := 1) hx hb dX7_setWindow_61 (by decide) ?_
      exact K62 _ _ _ _ (by subst ey3; first | with_reducible rfl | (simp only [if_pos c5]; done) | rfl) (hP.sub [0, 1] rfl) (hD.sub [0, 1] (by decide) rfl) hS (lv_sub hl [1, 2, 3, 4, 5, 0] rfl)
    · refine lv_iconst (v := 0) hx hb dX7_setWindow_57 (by decide) ?_
      refine lv_goto (tgt := 62) hx hb dX7_setWindow_58 (by decide) ?_
      exact K62 _ _ _ _ (by subst ey3; first | with_reducible rfl | (simp only [if_neg c5]; done) | rfl) (hP.sub [0, 1] rfl) (hD.sub [0, 1] (by decide) rfl) hS (lv_sub hl [1, 2, 3, 4, 5, 0] rfl)
  refine lv_if_eq (tgt := 48) hx hb dX7_setWindow_8 (by decide) (fun c2 => ?_) (fun c2 => ?_)
  · refine lv_iconst (v := 0) hx hb dX7_setWindow_48 (by decide) ?_
    exact K49 _ _ _ _ (by first | with_reducible rfl | (simp only [if_pos c2]; done) | rfl) (hP.sub [0, 1] rfl) (hD.sub [0, 1] (by decide) rfl) hS (lv_sub hl [0, 1, 2, 3, 4] rfl)
  · refine lv_iload_n hx hb dX7_setWindow_11 rfl (lv_at hl 2 rfl) ?_
    refine lv_iload_n hx hb dX7_setWindow_12 rfl (lv_at hl 1 rfl) ?_
    refine lv_sipush (v := 400) hx hb dX7_setWindow_13 (by decide) ?_
    refine call_i (wr := [(h0, .inr (7, [.ref h1, .long me, .ref h2, .ref h3, .ref h4, .ref h5, .int tw])), (h1, .inl (cI, 165, .inl f))]) (k := 0) (n := 0) (run_S (As := [.int p1, .int p0, .int 400]) (rest := []) ⟨hx, hb, hml, hown, hts⟩ (mX7_in l D cI cJ cZ cO p1 p0 400 H.size) (va_cwS 3 hts gX7_setWindow_X7_in rfl rfl rfl (by decide +kernel) ⟨Nat.le_of_ble_eq_true rfl, Nat.le_of_ble_eq_true rfl⟩) hK hN hP hD [] (by decide) rfl rfl rfl hl.1 (Nat.le_of_ble_eq_true rfl) dX7_setWindow_16 ⟨Nat.le_of_ble_eq_true rfl, Nat.le_of_ble_eq_true rfl⟩) hP hD hS hA [] [0, 1] rfl rfl (by decide) (by decide) (Nat.le_of_ble_eq_true rfl) (Nat.le_of_ble_eq_true rfl) (fun H locs hP hD hS => ?_)
    have hP : va_P D vwCl [(h0, .inr (7, [.ref h1, .long me, .ref h2, .ref h3, .ref h4, .ref h5, .int tw])), (h1, .inl (cI, 165, .inl f))] H := hP
    have hD : va_D A [(h0, .inr (7, [.ref h1, .long me, .ref h2, .ref h3, .ref h4, .ref h5, .int tw])), (h1, .inl (cI, 165, .inl f))] := hD
    refine lv_if_eq (tgt := 48) hx hb dX7_setWindow_19 (by decide) (fun c12 => ?_) (fun c12 => ?_)
    · refine lv_iconst (v := 0) hx hb dX7_setWindow_48 (by decide) ?_
      exact K49 _ _ _ _ (by first | with_reducible rfl | (simp only [if_neg c2, if_pos c12]; done) | rfl) (hP.sub [0, 1] rfl) (hD.sub [0, 1] (by decide) rfl) hS (lv_sub hl [0, 1, 2, 3, 4] rfl)
    · refine lv_iload_n hx hb dX7_setWindow_22 rfl (lv_at hl 3 rfl) ?_
      refine lv_ldc hx hb hown (hts (.constant RX7 55 (40000)) (by decide +kernel)) dX7_setWindow_23 ?_
      refine lv_ldc hx hb hown (hts (.constant RX7 56 (70000)) (by decide +kernel)) dX7_setWindow_25 ?_
      refine call_i (wr := [(h0, .inr (7, [.ref h1, .long me, .ref h2, .ref h3, .ref h4, .ref h5, .int tw])), (h1, .inl (cI, 165, .inl f))]) (k := 0) (n := 0) (run_S (As := [.int p2, .int 40000, .int 70000]) (rest := []) ⟨hx, hb, hml, hown, hts⟩ (mX7_in l D cI cJ cZ cO p2 40000 70000 H.size) (va_cwS 3 hts gX7_setWindow_X7_in rfl rfl rfl (by decide +kernel) ⟨Nat.le_of_ble_eq_true rfl, Nat.le_of_ble_eq_true rfl⟩) hK hN hP hD [] (by decide) rfl rfl rfl hl.1 (Nat.le_of_ble_eq_true rfl) dX7_setWindow_27 ⟨Nat.le_of_ble_eq_true rfl, Nat.le_of_ble_eq_true rfl⟩) hP hD hS hA [] [0, 1] rfl rfl (by decide) (by decide) (Nat.le_of_ble_eq_true rfl) (Nat.le_of_ble_eq_true rfl) (fun H locs hP hD hS => ?_)
      have hP : va_P D vwCl [(h0, .inr (7, [.ref h1, .long me, .ref h2, .ref h3, .ref h4, .ref h5, .int tw])), (h1, .inl (cI, 165, .inl f))] H := hP
      have hD : va_D A [(h0, .inr (7, [.ref h1, .long me, .ref h2, .ref h3, .ref h4, .ref h5, .int tw])), (h1, .inl (cI, 165, .inl f))] := hD
      refine lv_if_eq (tgt := 48) hx hb dX7_setWindow_30 (by decide) (fun c14 => ?_) (fun c14 => ?_)
      · refine lv_iconst (v := 0) hx hb dX7_setWindow_48 (by decide) ?_
        exact K49 _ _ _ _ (by first | with_reducible rfl | (simp only [if_neg c2, if_neg c12, if_pos c14]; done) | rfl) (hP.sub [0, 1] rfl) (hD.sub [0, 1] (by decide) rfl) hS (lv_sub hl [0, 1, 2, 3, 4] rfl)
      · refine lv_iload hx hb dX7_setWindow_33 (lv_at hl 4 rfl) ?_
        refine lv_iload_n hx hb dX7_setWindow_35 rfl (lv_at hl 3 rfl) ?_
        refine lv_ldc hx hb hown (hts (.constant RX7 56 (70000)) (by decide +kernel)) dX7_setWindow_36 ?_
        refine call_i (wr := [(h0, .inr (7, [.ref h1, .long me, .ref h2, .ref h3, .ref h4, .ref h5, .int tw])), (h1, .inl (cI, 165, .inl f))]) (k := 0) (n := 0) (run_S (As := [.int p3, .int p2, .int 70000]) (rest := []) ⟨hx, hb, hml, hown, hts⟩ (mX7_in l D cI cJ cZ cO p3 p2 70000 H.size) (va_cwS 3 hts gX7_setWindow_X7_in rfl rfl rfl (by decide +kernel) ⟨Nat.le_of_ble_eq_true rfl, Nat.le_of_ble_eq_true rfl⟩) hK hN hP hD [] (by decide) rfl rfl rfl hl.1 (Nat.le_of_ble_eq_true rfl) dX7_setWindow_38 ⟨Nat.le_of_ble_eq_true rfl, Nat.le_of_ble_eq_true rfl⟩) hP hD hS hA [] [0, 1] rfl rfl (by decide) (by decide) (Nat.le_of_ble_eq_true rfl) (Nat.le_of_ble_eq_true rfl) (fun H locs hP hD hS => ?_)
        have hP : va_P D vwCl [(h0, .inr (7, [.ref h1, .long me, .ref h2, .ref h3, .ref h4, .ref h5, .int tw])), (h1, .inl (cI, 165, .inl f))] H := hP
        have hD : va_D A [(h0, .inr (7, [.ref h1, .long me, .ref h2, .ref h3, .ref h4, .ref h5, .int tw])), (h1, .inl (cI, 165, .inl f))] := hD
        refine lv_if_eq (tgt := 48) hx hb dX7_setWindow_41 (by decide) (fun c16 => ?_) (fun c16 => ?_)
        · refine lv_iconst (v := 0) hx hb dX7_setWindow_48 (by decide) ?_
          exact K49 _ _ _ _ (by first | with_reducible rfl | (simp only [if_neg c2, if_neg c12, if_neg c14, if_pos c16]; done) | rfl) (hP.sub [0, 1] rfl) (hD.sub [0, 1] (by decide) rfl) hS (lv_sub hl [0, 1, 2, 3, 4] rfl)
        · refine lv_iconst (v := 1) hx hb dX7_setWindow_44 (by decide) ?_
          refine lv_goto (tgt := 49) hx hb dX7_setWindow_45 (by decide) ?_
          exact K49 _ _ _ _ (by first | with_reducible rfl | (simp only [if_neg c2, if_neg c12, if_neg c14, if_neg c16]; done) | rfl) (hP.sub [0, 1] rfl) (hD.sub [0, 1] (by decide) rfl) hS (lv_sub hl [0, 1, 2, 3, 4] rfl)

def v_h0_thrown_X7_setPower (p0 : Int32) (p1 : Int32) (p2 : Int32) : Int32 := (if (r_X7_in p0 1 10000) = 0 then 1 else (if (r_X7_in p1 1 5000) = 0 then 1 else (if (r_X7_in p2 1 5000) = 0 then 1 else 0 : Int32) : Int32) : Int32)
def a_h1_X7_setPower (f : Nat → Int32) (p0 : Int32) (p1 : Int32) (p2 : Int32) : Nat → Int32 := (if (if (r_X7_in p0 1 10000) = 0 then 1 else (if (r_X7_in p1 1 5000) = 0 then 1 else (if (r_X7_in p2 1 5000) = 0 then 1 else 0 : Int32) : Int32) : Int32) = 0 then (upd (upd (upd f 22 p0) 23 p1) 21 p2) else f : Nat → Int32)
set_option maxHeartbeats 4000000 in
set_option maxRecDepth 100000 in
theorem mX7_setPower (l : Launch) (D : va_G) (cI cJ cZ cO : ClassId) (h0 : Nat) (h1 : Nat) (h2 : Nat) (h3 : Nat) (h4 : Nat) (h5 : Nat) (me : Int64) (tw : Int32) (f : Nat → Int32) (p0 : Int32) (p1 : Int32) (p2 : Int32) : MV l yX7_setPower wsX7_setPower ({ frames := 1, cells := 0, slots := 0, locals := 22 } : Room) D (tysK cI cJ cZ cO) [.ref h0, .int p0, .int p1, .int p2] [(h0, .inr (7, [.ref h1, .long me, .ref h2, .ref h3, .ref h4, .ref h5, .int tw])), (h1, .inl (cI, 165, .inl f))] (fun (_ : Unit) => [(h0, .inr (7, [.ref h1, .long me, .ref h2, .ref h3, .ref h4, .ref h5, .int (v_h0_thrown_X7_setPower p0 p1 p2)])), (h1, .inl (cI, 165, .inl (a_h1_X7_setPower f p0 p1 p2)))]) := by
  refine MV.of (cc := cX7_setPower) (maxL := 4) (by decide) rfl (Nat.le_of_ble_eq_true rfl) ?_
  intro p e s m args below meth c A Q ls H locs B hin hS hP hD hl hret
  obtain ⟨hx, hb, hml, hown, hts, hK, hN, hA, hlocks⟩ := B
  have hi7 : ∀ w ∈ u_ws RX7 TX7 7, w ∈ wsX7_setPower := by decide +kernel
  have hl : lv_has ls 4 [(0, .ref h0), (1, .int p0), (2, .int p1), (3, .int p2)] := hl
  refine lv_aload_n hx hb dX7_setPower_0 rfl (lv_at hl 0 rfl) ?_
  refine lv_iload_n hx hb dX7_setPower_1 rfl (lv_at hl 1 rfl) ?_
  refine lv_iconst (v := 1) hx hb dX7_setPower_2 (by decide) ?_
  refine lv_sipush (v := 10000) hx hb dX7_setPower_3 (by decide) ?_
  refine call_i (wr := [(h0, .inr (7, [.ref h1, .long me, .ref h2, .ref h3, .ref h4, .ref h5, .int tw])), (h1, .inl (cI, 165, .inl f))]) (k := 0) (n := 0) (run_S (As := [.int p0, .int 1, .int 10000]) (rest := [.ref h0]) ⟨hx, hb, hml, hown, hts⟩ (mX7_in l D cI cJ cZ cO p0 1 10000 H.size) (va_cwS 3 hts gX7_setPower_X7_in rfl rfl rfl (by decide +kernel) ⟨Nat.le_of_ble_eq_true rfl, Nat.le_of_ble_eq_true rfl⟩) hK hN hP hD [] (by decide) rfl rfl rfl hl.1 (Nat.le_of_ble_eq_true rfl) dX7_setPower_6 ⟨Nat.le_of_ble_eq_true rfl, Nat.le_of_ble_eq_true rfl⟩) hP hD hS hA [] [0, 1] rfl rfl (by decide) (by decide) (Nat.le_of_ble_eq_true rfl) (Nat.le_of_ble_eq_true rfl) (fun H locs hP hD hS => ?_)
  have hP : va_P D vwCl [(h0, .inr (7, [.ref h1, .long me, .ref h2, .ref h3, .ref h4, .ref h5, .int tw])), (h1, .inl (cI, 165, .inl f))] H := hP
  have hD : va_D A [(h0, .inr (7, [.ref h1, .long me, .ref h2, .ref h3, .ref h4, .ref h5, .int tw])), (h1, .inl (cI, 165, .inl f))] := hD
  have K39 : ∀ (y3 : Int32) (H : Heap) (locs : List Loc) (ls : Array Slot), y3 = (if (r_X7_in p0 1 10000) = 0 then 1 else (if (r_X7_in p1 1 5000) = 0 then 1 else (if (r_X7_in p2 1 5000) = 0 then 1 else 0 : Int32) : Int32) : Int32) → va_P D vwCl [(h0, .inr (7, [.ref h1, .long me, .ref h2, .ref h3, .ref h4, .ref h5, .int tw])), (h1, .inl (cI, 165, .inl f))] H → va_D A [(h0, .inr (7, [.ref h1, .long me, .ref h2, .ref h3, .ref h4, .ref h5, .int tw])), (h1, .inl (cI, 165, .inl f))] → va_S A s.heap H locs → lv_has ls 4 [(0, .ref h0), (1, .int p0), (2, .int p1), (3, .int p2)] → W p l e ({ frames := 1, cells := 0, slots := 0, locals := 22 } : Room) s m args below meth c H locs 0 0 Q (F0 m 39 ls [.int y3, .ref h0]) := by
    intro y3 H locs ls ey3 hP hD hS hl
    refine va_put (D := D) (ci := 7) (v := .int y3) (ty := .int) (C := RX7) (T := TX7) (N := 7) hx hb hts hi7 tyX7 tyX7_ok nmX7 hown hK hP hD hS 0 rfl rfl 6 (by decide) (hts (.fieldLink RX7 30 "GridInverterModel" "thrown" "I") (by decide +kernel)) (fun _ h9 => h9) rfl (by decide +kernel) rfl rfl (Nat.le_of_ble_eq_true rfl) dX7_setPower_39 (fun H locs hP hD hS => ?_)
    have hP : va_P D vwCl [(h0, .inr (7, [.ref h1, .long me, .ref h2, .ref h3, .ref h4, .ref h5, .int y3])), (h1, .inl (cI, 165, .inl f))] H := hP
    have hD : va_D A [(h0, .inr (7, [.ref h1, .long me, .ref h2, .ref h3, .ref h4, .ref h5, .int y3])), (h1, .inl (cI, 165, .inl f))] := hD
    refine lv_aload_n hx hb dX7_setPower_42 rfl (lv_at hl 0 rfl) ?_
    refine va_get (D := D) (ci := 7) (v := .int y3) (C := RX7) (T := TX7) (N := 7) hx hb hts hi7 hown hK hP 0 rfl rfl 6 (by decide) (hts (.fieldLink RX7 30 "GridInverterModel" "thrown" "I") (by decide +kernel)) (fun _ h9 => h9) rfl dX7_setPower_43 ?_
    have K73 : ∀ (y6 : Nat → Int32) (H : Heap) (locs : List Loc) (ls : Array Slot), y6 = (if (if (r_X7_in p0 1 10000) = 0 then 1 else (if (r_X7_in p1 1 5000) = 0 then 1 else (if (r_X7_in p2 1 5000) = 0 then 1 else 0 : Int32) : Int32) : Int32) = 0 then (upd (upd (upd f 22 p0) 23 p1) 21 p2) else f : Nat → Int32) → va_P D vwCl [(h0, .inr (7, [.ref h1, .long me, .ref h2, .ref h3, .ref h4, .ref h5, .int y3])), (h1, .inl (cI, 165, .inl y6))] H → va_D A [(h0, .inr (7, [.ref h1, .long me, .ref h2, .ref h3, .ref h4, .ref h5, .int y3])), (h1, .inl (cI, 165, .inl y6))] → va_S A s.heap H locs → lv_has ls 4 [(0, .ref h0), (1, .int p0), (2, .int p1), (3, .int p2)] → W p l e ({ frames := 1, cells := 0, slots := 0, locals := 22 } : Room) s m args below meth c H locs 0 0 Q (F0 m 73 ls []) := by
      intro y6 H locs ls ey6 hP hD hS hl
      exact hret () _ _ _ _ _ _ _ (by subst ey3; subst ey6; first | with_reducible rfl | (simp only [v_h0_thrown_X7_setPower, a_h1_X7_setPower]; done) | rfl) hP hD hS (Nat.le_of_ble_eq_true rfl) (Nat.le_of_ble_eq_true rfl) dX7_setPower_73
    refine lv_if_ne (tgt := 73) hx hb dX7_setPower_46 (by decide) (fun c5 => ?_) (fun c5 => ?_)
    · exact K73 _ _ _ _ (by subst ey3; first | with_reducible rfl | (simp only [if_neg c5]; done) | rfl) (hP.sub [0, 1] rfl) (hD.sub [0, 1] (by decide) rfl) hS (lv_sub hl [0, 1, 2, 3] rfl)
    · refine lv_aload_n hx hb dX7_setPower_49 rfl (lv_at hl 0 rfl) ?_
      refine va_get (D := D) (ci := 7) (v := .ref h1) (C := RX7) (T := TX7) (N := 7) hx hb hts hi7 hown hK hP 0 rfl rfl 0 (by decide) (hts (.fieldLink RX7 7 "GridInverterModel" "at" "[I") (by decide +kernel)) (fun _ h9 => h9) rfl dX7_setPower_50 ?_
      refine lv_bipush (v := 22) hx hb dX7_setPower_53 (by decide) ?_
      refine lv_iload_n hx hb dX7_setPower_55 rfl (lv_at hl 1 rfl) ?_
      refine r_ast hx hb hK hP hD hS 1 0 rfl rfl 22 rfl (Nat.le_of_ble_eq_true rfl) (Nat.le_of_ble_eq_true rfl) dX7_setPower_56 (fun H locs hP hD hS => ?_)
      have hP : va_P D vwCl [(h0, .inr (7, [.ref h1, .long me, .ref h2, .ref h3, .ref h4, .ref h5, .int y3])), (h1, .inl (cI, 165, .inl (upd f 22 p0)))] H := hP
      have hD : va_D A [(h0, .inr (7, [.ref h1, .long me, .ref h2, .ref h3, .ref h4, .ref h5, .int y3])), (h1, .inl (cI, 165, .inl (upd f 22 p0)))] := hD
      refine lv_aload_n hx hb dX7_setPower_57 rfl (lv_at hl 0 rfl) ?_
      refine va_get (D := D) (ci := 7) (v := .ref h1) (C := RX7) (T := TX7) (N := 7) hx hb hts hi7 hown hK hP 0 rfl rfl 0 (by decide) (hts (.fieldLink RX7 7 "GridInverterModel" "at" "[I") (by decide +kernel)) (fun _ h9 => h9) rfl dX7_setPower_58 ?_
      refine lv_bipush (v := 23) hx hb dX7_setPower_61 (by decide) ?_
      refine lv_iload_n hx hb dX7_setPower_63 rfl (lv_at hl 2 rfl) ?_
      refine r_ast hx hb hK hP hD hS 1 0 rfl rfl 23 rfl (Nat.le_of_ble_eq_true rfl) (Nat.le_of_ble_eq_true rfl) dX7_setPower_64 (fun H locs hP hD hS => ?_)
      have hP : va_P D vwCl [(h0, .inr (7, [.ref h1, .long me, .ref h2, .ref h3, .ref h4, .ref h5, .int y3])), (h1, .inl (cI, 165, .inl (upd (upd f 22 p0) 23 p1)))] H := hP
      have hD : va_D A [(h0, .inr (7, [.ref h1, .long me, .ref h2, .ref h3, .ref h4, .ref h5, .int y3])), (h1, .inl (cI, 165, .inl (upd (upd f 22 p0) 23 p1)))] := hD
      refine lv_aload_n hx hb dX7_setPower_65 rfl (lv_at hl 0 rfl) ?_
      refine va_get (D := D) (ci := 7) (v := .ref h1) (C := RX7) (T := TX7) (N := 7) hx hb hts hi7 hown hK hP 0 rfl rfl 0 (by decide) (hts (.fieldLink RX7 7 "GridInverterModel" "at" "[I") (by decide +kernel)) (fun _ h9 => h9) rfl dX7_setPower_66 ?_
      refine lv_bipush (v := 21) hx hb dX7_setPower_69 (by decide) ?_
      refine lv_iload_n hx hb dX7_setPower_71 rfl (lv_at hl 3 rfl) ?_
      refine r_ast hx hb hK hP hD hS 1 0 rfl rfl 21 rfl (Nat.le_of_ble_eq_true rfl) (Nat.le_of_ble_eq_true rfl) dX7_setPower_72 (fun H locs hP hD hS => ?_)
      obtain ⟨x7, ex7⟩ : ∃ zz_, zz_ = (upd (upd (upd f 22 p0) 23 p1) 21 p2) := ⟨_, rfl⟩
      have hP : va_P D vwCl [(h0, .inr (7, [.ref h1, .long me, .ref h2, .ref h3, .ref h4, .ref h5, .int y3])), (h1, .inl (cI, 165, .inl x7))] H := by rw [ex7]; exact hP
      have hD : va_D A [(h0, .inr (7, [.ref h1, .long me, .ref h2, .ref h3, .ref h4, .ref h5, .int y3])), (h1, .inl (cI, 165, .inl x7))] := by rw [ex7]; exact hD
      exact K73 _ _ _ _ (by subst ey3; subst ex7; first | with_reducible rfl | (simp only [if_pos c5]; done) | rfl) (hP.sub [0, 1] rfl) (hD.sub [0, 1] (by decide) rfl) hS (lv_sub hl [0, 1, 2, 3] rfl)
  refine lv_if_eq (tgt := 38) hx hb dX7_setPower_9 (by decide) (fun c2 => ?_) (fun c2 => ?_)
  · refine lv_iconst (v := 1) hx hb dX7_setPower_38 (by decide) ?_
    exact K39 _ _ _ _ (by first | with_reducible rfl | (simp only [if_pos c2]; done) | rfl) (hP.sub [0, 1] rfl) (hD.sub [0, 1] (by decide) rfl) hS (lv_sub hl [0, 1, 2, 3] rfl)
  · refine lv_iload_n hx hb dX7_setPower_12 rfl (lv_at hl 2 rfl) ?_
    refine lv_iconst (v := 1) hx hb dX7_setPower_13 (by decide) ?_
    refine lv_sipush (v := 5000) hx hb dX7_setPower_14 (by decide) ?_
    refine call_i (wr := [(h0, .inr (7, [.ref h1, .long me, .ref h2, .ref h3, .ref h4, .ref h5, .int tw])), (h1, .inl (cI, 165, .inl f))]) (k := 0) (n := 0) (run_S (As := [.int p1, .int 1, .int 5000]) (rest := [.ref h0]) ⟨hx, hb, hml, hown, hts⟩ (mX7_in l D cI cJ cZ cO p1 1 5000 H.size) (va_cwS 3 hts gX7_setPower_X7_in rfl rfl rfl (by decide +kernel) ⟨Nat.le_of_ble_eq_true rfl, Nat.le_of_ble_eq_true rfl⟩) hK hN hP hD [] (by decide) rfl rfl rfl hl.1 (Nat.le_of_ble_eq_true rfl) dX7_setPower_17 ⟨Nat.le_of_ble_eq_true rfl, Nat.le_of_ble_eq_true rfl⟩) hP hD hS hA [] [0, 1] rfl rfl (by decide) (by decide) (Nat.le_of_ble_eq_true rfl) (Nat.le_of_ble_eq_true rfl) (fun H locs hP hD hS => ?_)
    have hP : va_P D vwCl [(h0, .inr (7, [.ref h1, .long me, .ref h2, .ref h3, .ref h4, .ref h5, .int tw])), (h1, .inl (cI, 165, .inl f))] H := hP
    have hD : va_D A [(h0, .inr (7, [.ref h1, .long me, .ref h2, .ref h3, .ref h4, .ref h5, .int tw])), (h1, .inl (cI, 165, .inl f))] := hD
    refine lv_if_eq (tgt := 38) hx hb dX7_setPower_20 (by decide) (fun c9 => ?_) (fun c9 => ?_)
    · refine lv_iconst (v := 1) hx hb dX7_setPower_38 (by decide) ?_
      exact K39 _ _ _ _ (by first | with_reducible rfl | (simp only [if_neg c2, if_pos c9]; done) | rfl) (hP.sub [0, 1] rfl) (hD.sub [0, 1] (by decide) rfl) hS (lv_sub hl [0, 1, 2, 3] rfl)
    · refine lv_iload_n hx hb dX7_setPower_23 rfl (lv_at hl 3 rfl) ?_
      refine lv_iconst (v := 1) hx hb dX7_setPower_24 (by decide) ?_
      refine lv_sipush (v := 5000) hx hb dX7_setPower_25 (by decide) ?_
      refine call_i (wr := [(h0, .inr (7, [.ref h1, .long me, .ref h2, .ref h3, .ref h4, .ref h5, .int tw])), (h1, .inl (cI, 165, .inl f))]) (k := 0) (n := 0) (run_S (As := [.int p2, .int 1, .int 5000]) (rest := [.ref h0]) ⟨hx, hb, hml, hown, hts⟩ (mX7_in l D cI cJ cZ cO p2 1 5000 H.size) (va_cwS 3 hts gX7_setPower_X7_in rfl rfl rfl (by decide +kernel) ⟨Nat.le_of_ble_eq_true rfl, Nat.le_of_ble_eq_true rfl⟩) hK hN hP hD [] (by decide) rfl rfl rfl hl.1 (Nat.le_of_ble_eq_true rfl) dX7_setPower_28 ⟨Nat.le_of_ble_eq_true rfl, Nat.le_of_ble_eq_true rfl⟩) hP hD hS hA [] [0, 1] rfl rfl (by decide) (by decide) (Nat.le_of_ble_eq_true rfl) (Nat.le_of_ble_eq_true rfl) (fun H locs hP hD hS => ?_)
      have hP : va_P D vwCl [(h0, .inr (7, [.ref h1, .long me, .ref h2, .ref h3, .ref h4, .ref h5, .int tw])), (h1, .inl (cI, 165, .inl f))] H := hP
      have hD : va_D A [(h0, .inr (7, [.ref h1, .long me, .ref h2, .ref h3, .ref h4, .ref h5, .int tw])), (h1, .inl (cI, 165, .inl f))] := hD
      refine lv_if_eq (tgt := 38) hx hb dX7_setPower_31 (by decide) (fun c11 => ?_) (fun c11 => ?_)
      · refine lv_iconst (v := 1) hx hb dX7_setPower_38 (by decide) ?_
        exact K39 _ _ _ _ (by first | with_reducible rfl | (simp only [if_neg c2, if_neg c9, if_pos c11]; done) | rfl) (hP.sub [0, 1] rfl) (hD.sub [0, 1] (by decide) rfl) hS (lv_sub hl [0, 1, 2, 3] rfl)
      · refine lv_iconst (v := 0) hx hb dX7_setPower_34 (by decide) ?_
        refine lv_goto (tgt := 39) hx hb dX7_setPower_35 (by decide) ?_
        exact K39 _ _ _ _ (by first | with_reducible rfl | (simp only [if_neg c2, if_neg c9, if_neg c11]; done) | rfl) (hP.sub [0, 1] rfl) (hD.sub [0, 1] (by decide) rfl) hS (lv_sub hl [0, 1, 2, 3] rfl)

def v_h0_thrown_X7_setDrift (p0 : Int32) (p1 : Int32) : Int32 := (if (r_X7_in p0 (-500) 500) = 0 then 1 else (if (r_X7_in p1 0 100) = 0 then 1 else 0 : Int32) : Int32)
def a_h1_X7_setDrift (f : Nat → Int32) (p0 : Int32) (p1 : Int32) : Nat → Int32 := (if (if (r_X7_in p0 (-500) 500) = 0 then 1 else (if (r_X7_in p1 0 100) = 0 then 1 else 0 : Int32) : Int32) = 0 then (upd (upd f 28 p0) 29 p1) else f : Nat → Int32)
set_option maxHeartbeats 4000000 in
set_option maxRecDepth 100000 in
theorem mX7_setDrift (l : Launch) (D : va_G) (cI cJ cZ cO : ClassId) (h0 : Nat) (h1 : Nat) (h2 : Nat) (h3 : Nat) (h4 : Nat) (h5 : Nat) (me : Int64) (tw : Int32) (f : Nat → Int32) (p0 : Int32) (p1 : Int32) : MV l yX7_setDrift wsX7_setDrift ({ frames := 1, cells := 0, slots := 0, locals := 22 } : Room) D (tysK cI cJ cZ cO) [.ref h0, .int p0, .int p1] [(h0, .inr (7, [.ref h1, .long me, .ref h2, .ref h3, .ref h4, .ref h5, .int tw])), (h1, .inl (cI, 165, .inl f))] (fun (_ : Unit) => [(h0, .inr (7, [.ref h1, .long me, .ref h2, .ref h3, .ref h4, .ref h5, .int (v_h0_thrown_X7_setDrift p0 p1)])), (h1, .inl (cI, 165, .inl (a_h1_X7_setDrift f p0 p1)))]) := by
  refine MV.of (cc := cX7_setDrift) (maxL := 3) (by decide) rfl (Nat.le_of_ble_eq_true rfl) ?_
  intro p e s m args below meth c A Q ls H locs B hin hS hP hD hl hret
  obtain ⟨hx, hb, hml, hown, hts, hK, hN, hA, hlocks⟩ := B
  have hi7 : ∀ w ∈ u_ws RX7 TX7 7, w ∈ wsX7_setDrift := by decide +kernel
  have hl : lv_has ls 3 [(0, .ref h0), (1, .int p0), (2, .int p1)] := hl
  refine lv_aload_n hx hb dX7_setDrift_0 rfl (lv_at hl 0 rfl) ?_
  refine lv_iload_n hx hb dX7_setDrift_1 rfl (lv_at hl 1 rfl) ?_
  refine lv_sipush (v := (-500)) hx hb dX7_setDrift_2 (by decide) ?_
  refine lv_sipush (v := 500) hx hb dX7_setDrift_5 (by decide) ?_
  refine call_i (wr := [(h0, .inr (7, [.ref h1, .long me, .ref h2, .ref h3, .ref h4, .ref h5, .int tw])), (h1, .inl (cI, 165, .inl f))]) (k := 0) (n := 0) (run_S (As := [.int p0, .int (-500), .int 500]) (rest := [.ref h0]) ⟨hx, hb, hml, hown, hts⟩ (mX7_in l D cI cJ cZ cO p0 (-500) 500 H.size) (va_cwS 3 hts gX7_setDrift_X7_in rfl rfl rfl (by decide +kernel) ⟨Nat.le_of_ble_eq_true rfl, Nat.le_of_ble_eq_true rfl⟩) hK hN hP hD [] (by decide) rfl rfl rfl hl.1 (Nat.le_of_ble_eq_true rfl) dX7_setDrift_8 ⟨Nat.le_of_ble_eq_true rfl, Nat.le_of_ble_eq_true rfl⟩) hP hD hS hA [] [0, 1] rfl rfl (by decide) (by decide) (Nat.le_of_ble_eq_true rfl) (Nat.le_of_ble_eq_true rfl) (fun H locs hP hD hS => ?_)
  have hP : va_P D vwCl [(h0, .inr (7, [.ref h1, .long me, .ref h2, .ref h3, .ref h4, .ref h5, .int tw])), (h1, .inl (cI, 165, .inl f))] H := hP
  have hD : va_D A [(h0, .inr (7, [.ref h1, .long me, .ref h2, .ref h3, .ref h4, .ref h5, .int tw])), (h1, .inl (cI, 165, .inl f))] := hD
  have K29 : ∀ (y3 : Int32) (H : Heap) (locs : List Loc) (ls : Array Slot), y3 = (if (r_X7_in p0 (-500) 500) = 0 then 1 else (if (r_X7_in p1 0 100) = 0 then 1 else 0 : Int32) : Int32) → va_P D vwCl [(h0, .inr (7, [.ref h1, .long me, .ref h2, .ref h3, .ref h4, .ref h5, .int tw])), (h1, .inl (cI, 165, .inl f))] H → va_D A [(h0, .inr (7, [.ref h1, .long me, .ref h2, .ref h3, .ref h4, .ref h5, .int tw])), (h1, .inl (cI, 165, .inl f))] → va_S A s.heap H locs → lv_has ls 3 [(0, .ref h0), (1, .int p0), (2, .int p1)] → W p l e ({ frames := 1, cells := 0, slots := 0, locals := 22 } : Room) s m args below meth c H locs 0 0 Q (F0 m 29 ls [.int y3, .ref h0]) := by
    intro y3 H locs ls ey3 hP hD hS hl
    refine va_put (D := D) (ci := 7) (v := .int y3) (ty := .int) (C := RX7) (T := TX7) (N := 7) hx hb hts hi7 tyX7 tyX7_ok nmX7 hown hK hP hD hS 0 rfl rfl 6 (by decide) (hts (.fieldLink RX7 30 "GridInverterModel" "thrown" "I") (by decide +kernel)) (fun _ h9 => h9) rfl (by decide +kernel) rfl rfl (Nat.le_of_ble_eq_true rfl) dX7_setDrift_29 (fun H locs hP hD hS => ?_)
    have hP : va_P D vwCl [(h0, .inr (7, [.ref h1, .long me, .ref h2, .ref h3, .ref h4, .ref h5, .int y3])), (h1, .inl (cI, 165, .inl f))] H := hP
    have hD : va_D A [(h0, .inr (7, [.ref h1, .long me, .ref h2, .ref h3, .ref h4, .ref h5, .int y3])), (h1, .inl (cI, 165, .inl f))] := hD
    refine lv_aload_n hx hb dX7_setDrift_32 rfl (lv_at hl 0 rfl) ?_
    refine va_get (D := D) (ci := 7) (v := .int y3) (C := RX7) (T := TX7) (N := 7) hx hb hts hi7 hown hK hP 0 rfl rfl 6 (by decide) (hts (.fieldLink RX7 30 "GridInverterModel" "thrown" "I") (by decide +kernel)) (fun _ h9 => h9) rfl dX7_setDrift_33 ?_
    have K55 : ∀ (y6 : Nat → Int32) (H : Heap) (locs : List Loc) (ls : Array Slot), y6 = (if (if (r_X7_in p0 (-500) 500) = 0 then 1 else (if (r_X7_in p1 0 100) = 0 then 1 else 0 : Int32) : Int32) = 0 then (upd (upd f 28 p0) 29 p1) else f : Nat → Int32) → va_P D vwCl [(h0, .inr (7, [.ref h1, .long me, .ref h2, .ref h3, .ref h4, .ref h5, .int y3])), (h1, .inl (cI, 165, .inl y6))] H → va_D A [(h0, .inr (7, [.ref h1, .long me, .ref h2, .ref h3, .ref h4, .ref h5, .int y3])), (h1, .inl (cI, 165, .inl y6))] → va_S A s.heap H locs → lv_has ls 3 [(0, .ref h0), (1, .int p0), (2, .int p1)] → W p l e ({ frames := 1, cells := 0, slots := 0, locals := 22 } : Room) s m args below meth c H locs 0 0 Q (F0 m 55 ls []) := by
      intro y6 H locs ls ey6 hP hD hS hl
      exact hret () _ _ _ _ _ _ _ (by subst ey3; subst ey6; first | with_reducible rfl | (simp only [v_h0_thrown_X7_setDrift, a_h1_X7_setDrift]; done) | rfl) hP hD hS (Nat.le_of_ble_eq_true rfl) (Nat.le_of_ble_eq_true rfl) dX7_setDrift_55
    refine lv_if_ne (tgt := 55) hx hb dX7_setDrift_36 (by decide) (fun c5 => ?_) (fun c5 => ?_)
    · exact K55 _ _ _ _ (by subst ey3; first | with_reducible rfl | (simp only [if_neg c5]; done) | rfl) (hP.sub [0, 1] rfl) (hD.sub [0, 1] (by decide) rfl) hS (lv_sub hl [0, 1, 2] rfl)
    · refine lv_aload_n hx hb dX7_setDrift_39 rfl (lv_at hl 0 rfl) ?_
      refine va_get (D := D) (ci := 7) (v := .ref h1) (C := RX7) (T := TX7) (N := 7) hx hb hts hi7 hown hK hP 0 rfl rfl 0 (by decide) (hts (.fieldLink RX7 7 "GridInverterModel" "at" "[I") (by decide +kernel)) (fun _ h9 => h9) rfl dX7_setDrift_40 ?_
      refine lv_bipush (v := 28) hx hb dX7_setDrift_43 (by decide) ?_
      refine lv_iload_n hx hb dX7_setDrift_45 rfl (lv_at hl 1 rfl) ?_
      refine r_ast hx hb hK hP hD hS 1 0 rfl rfl 28 rfl (Nat.le_of_ble_eq_true rfl) (Nat.le_of_ble_eq_true rfl) dX7_setDrift_46 (fun H locs hP hD hS => ?_)
      have hP : va_P D vwCl [(h0, .inr (7, [.ref h1, .long me, .ref h2, .ref h3, .ref h4, .ref h5, .int y3])), (h1, .inl (cI, 165, .inl (upd f 28 p0)))] H := hP
      have hD : va_D A [(h0, .inr (7, [.ref h1, .long me, .ref h2, .ref h3, .ref h4, .ref h5, .int y3])), (h1, .inl (cI, 165, .inl (upd f 28 p0)))] := hD
      refine lv_aload_n hx hb dX7_setDrift_47 rfl (lv_at hl 0 rfl) ?_
      refine va_get (D := D) (ci := 7) (v := .ref h1) (C := RX7) (T := TX7) (N := 7) hx hb hts hi7 hown hK hP 0 rfl rfl 0 (by decide) (hts (.fieldLink RX7 7 "GridInverterModel" "at" "[I") (by decide +kernel)) (fun _ h9 => h9) rfl dX7_setDrift_48 ?_
      refine lv_bipush (v := 29) hx hb dX7_setDrift_51 (by decide) ?_
      refine lv_iload_n hx hb dX7_setDrift_53 rfl (lv_at hl 2 rfl) ?_
      refine r_ast hx hb hK hP hD hS 1 0 rfl rfl 29 rfl (Nat.le_of_ble_eq_true rfl) (Nat.le_of_ble_eq_true rfl) dX7_setDrift_54 (fun H locs hP hD hS => ?_)
      have hP : va_P D vwCl [(h0, .inr (7, [.ref h1, .long me, .ref h2, .ref h3, .ref h4, .ref h5, .int y3])), (h1, .inl (cI, 165, .inl (upd (upd f 28 p0) 29 p1)))] H := hP
      have hD : va_D A [(h0, .inr (7, [.ref h1, .long me, .ref h2, .ref h3, .ref h4, .ref h5, .int y3])), (h1, .inl (cI, 165, .inl (upd (upd f 28 p0) 29 p1)))] := hD
      exact K55 _ _ _ _ (by subst ey3; first | with_reducible rfl | (simp only [if_pos c5]; done) | rfl) (hP.sub [0, 1] rfl) (hD.sub [0, 1] (by decide) rfl) hS (lv_sub hl [0, 1, 2] rfl)
  refine lv_if_eq (tgt := 28) hx hb dX7_setDrift_11 (by decide) (fun c2 => ?_) (fun c2 => ?_)
  · refine lv_iconst (v := 1) hx hb dX7_setDrift_28 (by decide) ?_
    exact K29 _ _ _ _ (by first | with_reducible rfl | (simp only [if_pos c2]; done) | rfl) (hP.sub [0, 1] rfl) (hD.sub [0, 1] (by decide) rfl) hS (lv_sub hl [0, 1, 2] rfl)
  · refine lv_iload_n hx hb dX7_setDrift_14 rfl (lv_at hl 2 rfl) ?_
    refine lv_iconst (v := 0) hx hb dX7_setDrift_15 (by decide) ?_
    refine lv_bipush (v := 100) hx hb dX7_setDrift_16 (by decide) ?_
    refine call_i (wr := [(h0, .inr (7, [.ref h1, .long me, .ref h2, .ref h3, .ref h4, .ref h5, .int tw])), (h1, .inl (cI, 165, .inl f))]) (k := 0) (n := 0) (run_S (As := [.int p1, .int 0, .int 100]) (rest := [.ref h0]) ⟨hx, hb, hml, hown, hts⟩ (mX7_in l D cI cJ cZ cO p1 0 100 H.size) (va_cwS 3 hts gX7_setDrift_X7_in rfl rfl rfl (by decide +kernel) ⟨Nat.le_of_ble_eq_true rfl, Nat.le_of_ble_eq_true rfl⟩) hK hN hP hD [] (by decide) rfl rfl rfl hl.1 (Nat.le_of_ble_eq_true rfl) dX7_setDrift_18 ⟨Nat.le_of_ble_eq_true rfl, Nat.le_of_ble_eq_true rfl⟩) hP hD hS hA [] [0, 1] rfl rfl (by decide) (by decide) (Nat.le_of_ble_eq_true rfl) (Nat.le_of_ble_eq_true rfl) (fun H locs hP hD hS => ?_)
    have hP : va_P D vwCl [(h0, .inr (7, [.ref h1, .long me, .ref h2, .ref h3, .ref h4, .ref h5, .int tw])), (h1, .inl (cI, 165, .inl f))] H := hP
    have hD : va_D A [(h0, .inr (7, [.ref h1, .long me, .ref h2, .ref h3, .ref h4, .ref h5, .int tw])), (h1, .inl (cI, 165, .inl f))] := hD
    refine lv_if_eq (tgt := 28) hx hb dX7_setDrift_21 (by decide) (fun c8 => ?_) (fun c8 => ?_)
    · refine lv_iconst (v := 1) hx hb dX7_setDrift_28 (by decide) ?_
      exact K29 _ _ _ _ (by first | with_reducible rfl | (simp only [if_neg c2, if_pos c8]; done) | rfl) (hP.sub [0, 1] rfl) (hD.sub [0, 1] (by decide) rfl) hS (lv_sub hl [0, 1, 2] rfl)
    · refine lv_iconst (v := 0) hx hb dX7_setDrift_24 (by decide) ?_
      refine lv_goto (tgt := 29) hx hb dX7_setDrift_25 (by decide) ?_
      exact K29 _ _ _ _ (by first | with_reducible rfl | (simp only [if_neg c2, if_neg c8]; done) | rfl) (hP.sub [0, 1] rfl) (hD.sub [0, 1] (by decide) rfl) hS (lv_sub hl [0, 1, 2] rfl)

def r_X7_jump (f : Nat → Int32) (p0 : Int32) : Int32 := (if (if (r_X7_in p0 (-500000) 500000) = 0 then 1 else 0 : Int32) = 0 then (r_X7_round ((f 3) + p0)) else 0 : Int32)
def v_h0_thrown_X7_jump (p0 : Int32) : Int32 := (if (r_X7_in p0 (-500000) 500000) = 0 then 1 else 0 : Int32)
def a_h1_X7_jump (f : Nat → Int32) (p0 : Int32) : Nat → Int32 := (if (if (r_X7_in p0 (-500000) 500000) = 0 then 1 else 0 : Int32) = 0 then (upd f 3 (r_X7_round ((f 3) + p0))) else f : Nat → Int32)
set_option maxHeartbeats 4000000 in
set_option maxRecDepth 100000 in
theorem mX7_jump (l : Launch) (D : va_G) (cI cJ cZ cO : ClassId) (h0 : Nat) (h1 : Nat) (h2 : Nat) (h3 : Nat) (h4 : Nat) (h5 : Nat) (me : Int64) (tw : Int32) (f : Nat → Int32) (p0 : Int32) : MI l yX7_jump wsX7_jump ({ frames := 1, cells := 0, slots := 0, locals := 22 } : Room) D (tysK cI cJ cZ cO) [.ref h0, .int p0] [(h0, .inr (7, [.ref h1, .long me, .ref h2, .ref h3, .ref h4, .ref h5, .int tw])), (h1, .inl (cI, 165, .inl f))] (r_X7_jump f p0) [(h0, .inr (7, [.ref h1, .long me, .ref h2, .ref h3, .ref h4, .ref h5, .int (v_h0_thrown_X7_jump p0)])), (h1, .inl (cI, 165, .inl (a_h1_X7_jump f p0)))] := by
  refine MI.of (cc := cX7_jump) (maxL := 2) (ret := .int) (by decide) rfl (Nat.le_of_ble_eq_true rfl) rfl ?_
  intro p e s m args below meth c A Q ls H locs B hS hP hD hl hret
  obtain ⟨hx, hb, hml, hown, hts, hK, hN, hA, hlocks⟩ := B
  have hi7 : ∀ w ∈ u_ws RX7 TX7 7, w ∈ wsX7_jump := by decide +kernel
  have hl : lv_has ls 2 [(0, .ref h0), (1, .int p0)] := hl
  refine lv_aload_n hx hb dX7_jump_0 rfl (lv_at hl 0 rfl) ?_
  refine lv_iload_n hx hb dX7_jump_1 rfl (lv_at hl 1 rfl) ?_
  refine lv_ldc hx hb hown (hts (.constant RX7 41 (-500000)) (by decide +kernel)) dX7_jump_2 ?_
  refine lv_ldc hx hb hown (hts (.constant RX7 42 (500000)) (by decide +kernel)) dX7_jump_4 ?_
  refine call_i (wr := [(h0, .inr (7, [.ref h1, .long me, .ref h2, .ref h3, .ref h4, .ref h5, .int tw])), (h1, .inl (cI, 165, .inl f))]) (k := 0) (n := 0) (run_S (As := [.int p0, .int (-500000), .int 500000]) (rest := [.ref h0]) ⟨hx, hb, hml, hown, hts⟩ (mX7_in l D cI cJ cZ cO p0 (-500000) 500000 H.size) (va_cwS 3 hts gX7_jump_X7_in rfl rfl rfl (by decide +kernel) ⟨Nat.le_of_ble_eq_true rfl, Nat.le_of_ble_eq_true rfl⟩) hK hN hP hD [] (by decide) rfl rfl rfl hl.1 (Nat.le_of_ble_eq_true rfl) dX7_jump_6 ⟨Nat.le_of_ble_eq_true rfl, Nat.le_of_ble_eq_true rfl⟩) hP hD hS hA [] [0, 1] rfl rfl (by decide) (by decide) (Nat.le_of_ble_eq_true rfl) (Nat.le_of_ble_eq_true rfl) (fun H locs hP hD hS => ?_)
  have hP : va_P D vwCl [(h0, .inr (7, [.ref h1, .long me, .ref h2, .ref h3, .ref h4, .ref h5, .int tw])), (h1, .inl (cI, 165, .inl f))] H := hP
  have hD : va_D A [(h0, .inr (7, [.ref h1, .long me, .ref h2, .ref h3, .ref h4, .ref h5, .int tw])), (h1, .inl (cI, 165, .inl f))] := hD
  refine lv_topi (fun x1 ex1 => ?_)
  have K17 : ∀ (y4 : Int32) (H : Heap) (locs : List Loc) (ls : Array Slot), y4 = (if (r_X7_in p0 (-500000) 500000) = 0 then 1 else 0 : Int32) → va_P D vwCl [(h0, .inr (7, [.ref h1, .long me, .ref h2, .ref h3, .ref h4, .ref h5, .int tw])), (h1, .inl (cI, 165, .inl f))] H → va_D A [(h0, .inr (7, [.ref h1, .long me, .ref h2, .ref h3, .ref h4, .ref h5, .int tw])), (h1, .inl (cI, 165, .inl f))] → va_S A s.heap H locs → lv_has ls 2 [(0, .ref h0), (1, .int p0)] → W p l e ({ frames := 1, cells := 0, slots := 0, locals := 22 } : Room) s m args below meth c H locs 0 0 Q (F0 m 17 ls [.int y4, .ref h0]) := by
    intro y4 H locs ls ey4 hP hD hS hl
    refine va_put (D := D) (ci := 7) (v := .int y4) (ty := .int) (C := RX7) (T := TX7) (N := 7) hx hb hts hi7 tyX7 tyX7_ok nmX7 hown hK hP hD hS 0 rfl rfl 6 (by decide) (hts (.fieldLink RX7 30 "GridInverterModel" "thrown" "I") (by decide +kernel)) (fun _ h9 => h9) rfl (by decide +kernel) rfl rfl (Nat.le_of_ble_eq_true rfl) dX7_jump_17 (fun H locs hP hD hS => ?_)
    have hP : va_P D vwCl [(h0, .inr (7, [.ref h1, .long me, .ref h2, .ref h3, .ref h4, .ref h5, .int y4])), (h1, .inl (cI, 165, .inl f))] H := hP
    have hD : va_D A [(h0, .inr (7, [.ref h1, .long me, .ref h2, .ref h3, .ref h4, .ref h5, .int y4])), (h1, .inl (cI, 165, .inl f))] := hD
    refine lv_aload_n hx hb dX7_jump_20 rfl (lv_at hl 0 rfl) ?_
    refine va_get (D := D) (ci := 7) (v := .int y4) (C := RX7) (T := TX7) (N := 7) hx hb hts hi7 hown hK hP 0 rfl rfl 6 (by decide) (hts (.fieldLink RX7 30 "GridInverterModel" "thrown" "I") (by decide +kernel)) (fun _ h9 => h9) rfl dX7_jump_21 ?_
    refine lv_if_eq (tgt := 29) hx hb dX7_jump_24 (by decide) (fun c6 => ?_) (fun c6 => ?_)
    · refine lv_aload_n hx hb dX7_jump_29 rfl (lv_at hl 0 rfl) ?_
      refine va_get (D := D) (ci := 7) (v := .ref h1) (C := RX7) (T := TX7) (N := 7) hx hb hts hi7 hown hK hP 0 rfl rfl 0 (by decide) (hts (.fieldLink RX7 7 "GridInverterModel" "at" "[I") (by decide +kernel)) (fun _ h9 => h9) rfl dX7_jump_30 ?_
      refine lv_iconst (v := 3) hx hb dX7_jump_33 (by decide) ?_
      refine lv_aload_n hx hb dX7_jump_34 rfl (lv_at hl 0 rfl) ?_
      refine va_get (D := D) (ci := 7) (v := .ref h1) (C := RX7) (T := TX7) (N := 7) hx hb hts hi7 hown hK hP 0 rfl rfl 0 (by decide) (hts (.fieldLink RX7 7 "GridInverterModel" "at" "[I") (by decide +kernel)) (fun _ h9 => h9) rfl dX7_jump_35 ?_
      refine lv_iconst (v := 3) hx hb dX7_jump_38 (by decide) ?_
      refine r_ald hx hb hK hP 1 0 rfl rfl 3 rfl (Nat.le_of_ble_eq_true rfl) (Nat.le_of_ble_eq_true rfl) (v := (f 3)) rfl dX7_jump_39 ?_
      refine lv_iload_n hx hb dX7_jump_40 rfl (lv_at hl 1 rfl) ?_
      refine lv_iadd hx hb dX7_jump_41 ?_
      refine call_i (wr := [(h0, .inr (7, [.ref h1, .long me, .ref h2, .ref h3, .ref h4, .ref h5, .int y4])), (h1, .inl (cI, 165, .inl f))]) (k := 0) (n := 0) (run_S (As := [.int ((f 3) + p0)]) (rest := [.int 3, .ref h1]) ⟨hx, hb, hml, hown, hts⟩ (mX7_round l D cI cJ cZ cO ((f 3) + p0) H.size) (va_cwS 1 hts gX7_jump_X7_round rfl rfl rfl (by decide +kernel) ⟨Nat.le_of_ble_eq_true rfl, Nat.le_of_ble_eq_true rfl⟩) hK hN hP hD [] (by decide) rfl rfl rfl hl.1 (Nat.le_of_ble_eq_true rfl) dX7_jump_42 ⟨Nat.le_of_ble_eq_true rfl, Nat.le_of_ble_eq_true rfl⟩) hP hD hS hA [] [0, 1] rfl rfl (by decide) (by decide) (Nat.le_of_ble_eq_true rfl) (Nat.le_of_ble_eq_true rfl) (fun H locs hP hD hS => ?_)
      have hP : va_P D vwCl [(h0, .inr (7, [.ref h1, .long me, .ref h2, .ref h3, .ref h4, .ref h5, .int y4])), (h1, .inl (cI, 165, .inl f))] H := hP
      have hD : va_D A [(h0, .inr (7, [.ref h1, .long me, .ref h2, .ref h3, .ref h4, .ref h5, .int y4])), (h1, .inl (cI, 165, .inl f))] := hD
      refine r_ast hx hb hK hP hD hS 1 0 rfl rfl 3 rfl (Nat.le_of_ble_eq_true rfl) (Nat.le_of_ble_eq_true rfl) dX7_jump_45 (fun H locs hP hD hS => ?_)
      obtain ⟨x7, ex7⟩ : ∃ zz_, zz_ = (upd f 3 (r_X7_round ((f 3) + p0))) := ⟨_, rfl⟩
      have hP : va_P D vwCl [(h0, .inr (7, [.ref h1, .long me, .ref h2, .ref h3, .ref h4, .ref h5, .int y4])), (h1, .inl (cI, 165, .inl x7))] H := by rw [ex7]; exact hP
      have hD : va_D A [(h0, .inr (7, [.ref h1, .long me, .ref h2, .ref h3, .ref h4, .ref h5, .int y4])), (h1, .inl (cI, 165, .inl x7))] := by rw [ex7]; exact hD
      refine lv_aload_n hx hb dX7_jump_46 rfl (lv_at hl 0 rfl) ?_
      refine va_get (D := D) (ci := 7) (v := .ref h1) (C := RX7) (T := TX7) (N := 7) hx hb hts hi7 hown hK hP 0 rfl rfl 0 (by decide) (hts (.fieldLink RX7 7 "GridInverterModel" "at" "[I") (by decide +kernel)) (fun _ h9 => h9) rfl dX7_jump_47 ?_
      refine lv_iconst (v := 3) hx hb dX7_jump_50 (by decide) ?_
      refine r_ald hx hb hK hP 1 0 rfl rfl 3 rfl (Nat.le_of_ble_eq_true rfl) (Nat.le_of_ble_eq_true rfl) (v := (r_X7_round ((f 3) + p0))) (by subst ex7; exact pk_us) dX7_jump_51 ?_
      exact hret _ _ _ _ _ _ _ _ (by subst ex1; subst ey4; subst ex7; first | with_reducible rfl | (simp only [r_X7_jump, v_h0_thrown_X7_jump, a_h1_X7_jump, if_pos c6]; done) | rfl) (by subst ex1; subst ey4; subst ex7; first | with_reducible rfl | (simp only [r_X7_jump, v_h0_thrown_X7_jump, a_h1_X7_jump, if_pos c6]; done) | rfl) hP hD hS (Nat.le_of_ble_eq_true rfl) (Nat.le_of_ble_eq_true rfl) dX7_jump_52
    · refine lv_iconst (v := 0) hx hb dX7_jump_27 (by decide) ?_
      exact hret _ _ _ _ _ _ _ _ (by subst ex1; subst ey4; first | with_reducible rfl | (simp only [r_X7_jump, v_h0_thrown_X7_jump, a_h1_X7_jump, if_neg c6]; done) | rfl) (by subst ex1; subst ey4; first | with_reducible rfl | (simp only [r_X7_jump, v_h0_thrown_X7_jump, a_h1_X7_jump, if_neg c6]; done) | rfl) hP hD hS (Nat.le_of_ble_eq_true rfl) (Nat.le_of_ble_eq_true rfl) dX7_jump_28
  refine lv_if_eq (tgt := 16) hx hb dX7_jump_9 (by decide) (fun c3 => ?_) (fun c3 => ?_)
  · refine lv_iconst (v := 1) hx hb dX7_jump_16 (by decide) ?_
    exact K17 _ _ _ _ (by subst ex1; first | with_reducible rfl | (simp only [if_pos c3]; done) | rfl) (hP.sub [0, 1] rfl) (hD.sub [0, 1] (by decide) rfl) hS (lv_sub hl [0, 1] rfl)
  · refine lv_iconst (v := 0) hx hb dX7_jump_12 (by decide) ?_
    refine lv_goto (tgt := 17) hx hb dX7_jump_13 (by decide) ?_
    exact K17 _ _ _ _ (by subst ex1; first | with_reducible rfl | (simp only [if_neg c3]; done) | rfl) (hP.sub [0, 1] rfl) (hD.sub [0, 1] (by decide) rfl) hS (lv_sub hl [0, 1] rfl)

def r_X7_connect (f : Nat → Int32) : Int32 := (if (f 10) = 1 then 1 else 0 : Int32)
def a_h1_X7_connect (f : Nat → Int32) (p0 : Int32) : Nat → Int32 := (upd f 10 (if p0 = 0 then 0 else 1 : Int32))
set_option maxHeartbeats 4000000 in
set_option maxRecDepth 100000 in
theorem mX7_connect (l : Launch) (D : va_G) (cI cJ cZ cO : ClassId) (h0 : Nat) (h1 : Nat) (h2 : Nat) (h3 : Nat) (h4 : Nat) (h5 : Nat) (me : Int64) (tw : Int32) (f : Nat → Int32) (p0 : Int32) : MI l yX7_connect wsX7_connect ({ frames := 0, cells := 0, slots := 0, locals := 0 } : Room) D (tysK cI cJ cZ cO) [.ref h0, .int p0] [(h0, .inr (7, [.ref h1, .long me, .ref h2, .ref h3, .ref h4, .ref h5, .int tw])), (h1, .inl (cI, 165, .inl f))] (r_X7_connect f) [(h0, .inr (7, [.ref h1, .long me, .ref h2, .ref h3, .ref h4, .ref h5, .int 0])), (h1, .inl (cI, 165, .inl (a_h1_X7_connect f p0)))] := by
  refine MI.of (cc := cX7_connect) (maxL := 3) (ret := .boolean) (by decide) rfl (Nat.le_of_ble_eq_true rfl) (by simp only [r_X7_connect, a_h1_X7_connect]; first | rfl | (repeat' split) <;> rfl) ?_
  intro p e s m args below meth c A Q ls H locs B hS hP hD hl hret
  obtain ⟨hx, hb, hml, hown, hts, hK, hN, hA, hlocks⟩ := B
  have hi7 : ∀ w ∈ u_ws RX7 TX7 7, w ∈ wsX7_connect := by decide +kernel
  have hl : lv_has ls 3 [(0, .ref h0), (1, .int p0)] := hl
  refine lv_aload_n hx hb dX7_connect_0 rfl (lv_at hl 0 rfl) ?_
  refine lv_iconst (v := 0) hx hb dX7_connect_1 (by decide) ?_
  refine va_put (D := D) (ci := 7) (v := .int 0) (ty := .int) (C := RX7) (T := TX7) (N := 7) hx hb hts hi7 tyX7 tyX7_ok nmX7 hown hK hP hD hS 0 rfl rfl 6 (by decide) (hts (.fieldLink RX7 30 "GridInverterModel" "thrown" "I") (by decide +kernel)) (fun _ h9 => h9) rfl (by decide +kernel) rfl rfl (Nat.le_of_ble_eq_true rfl) dX7_connect_2 (fun H locs hP hD hS => ?_)
  have hP : va_P D vwCl [(h0, .inr (7, [.ref h1, .long me, .ref h2, .ref h3, .ref h4, .ref h5, .int 0])), (h1, .inl (cI, 165, .inl f))] H := hP
  have hD : va_D A [(h0, .inr (7, [.ref h1, .long me, .ref h2, .ref h3, .ref h4, .ref h5, .int 0])), (h1, .inl (cI, 165, .inl f))] := hD
  refine lv_aload_n hx hb dX7_connect_5 rfl (lv_at hl 0 rfl) ?_
  refine va_get (D := D) (ci := 7) (v := .ref h1) (C := RX7) (T := TX7) (N := 7) hx hb hts hi7 hown hK hP 0 rfl rfl 0 (by decide) (hts (.fieldLink RX7 7 "GridInverterModel" "at" "[I") (by decide +kernel)) (fun _ h9 => h9) rfl dX7_connect_6 ?_
  refine lv_bipush (v := 10) hx hb dX7_connect_9 (by decide) ?_
  refine r_ald hx hb hK hP 1 0 rfl rfl 10 rfl (Nat.le_of_ble_eq_true rfl) (Nat.le_of_ble_eq_true rfl) (v := (f 10)) rfl dX7_connect_11 ?_
  refine lv_iconst (v := 1) hx hb dX7_connect_12 (by decide) ?_
  have K21 : ∀ (y3 : Int32) (H : Heap) (locs : List Loc) (ls : Array Slot), y3 = (if (f 10) = 1 then 1 else 0 : Int32) → va_P D vwCl [(h0, .inr (7, [.ref h1, .long me, .ref h2, .ref h3, .ref h4, .ref h5, .int 0])), (h1, .inl (cI, 165, .inl f))] H → va_D A [(h0, .inr (7, [.ref h1, .long me, .ref h2, .ref h3, .ref h4, .ref h5, .int 0])), (h1, .inl (cI, 165, .inl f))] → va_S A s.heap H locs → lv_has ls 3 [(0, .ref h0), (1, .int p0)] → W p l e ({ frames := 0, cells := 0, slots := 0, locals := 0 } : Room) s m args below meth c H locs 0 0 Q (F0 m 21 ls [.int y3]) := by
    intro y3 H locs ls ey3 hP hD hS hl
    refine lv_istore_n (lv' := [(2, .int y3), (0, .ref h0), (1, .int p0)]) hx hb dX7_connect_21 rfl hl (by decide) rfl (fun ls hl => ?_)
    refine lv_aload_n hx hb dX7_connect_22 rfl (lv_at hl 1 rfl) ?_
    refine va_get (D := D) (ci := 7) (v := .ref h1) (C := RX7) (T := TX7) (N := 7) hx hb hts hi7 hown hK hP 0 rfl rfl 0 (by decide) (hts (.fieldLink RX7 7 "GridInverterModel" "at" "[I") (by decide +kernel)) (fun _ h9 => h9) rfl dX7_connect_23 ?_
    refine lv_bipush (v := 10) hx hb dX7_connect_26 (by decide) ?_
    refine lv_iload_n hx hb dX7_connect_28 rfl (lv_at hl 2 rfl) ?_
    have K37 : ∀ (y6 : Int32) (H : Heap) (locs : List Loc) (ls : Array Slot), y6 = (if p0 = 0 then 0 else 1 : Int32) → va_P D vwCl [(h0, .inr (7, [.ref h1, .long me, .ref h2, .ref h3, .ref h4, .ref h5, .int 0])), (h1, .inl (cI, 165, .inl f))] H → va_D A [(h0, .inr (7, [.ref h1, .long me, .ref h2, .ref h3, .ref h4, .ref h5, .int 0])), (h1, .inl (cI, 165, .inl f))] → va_S A s.heap H locs → lv_has ls 3 [(0, .ref h0), (1, .int p0), (2, .int y3)] → W p l e ({ frames := 0, cells := 0, slots := 0, locals := 0 } : Room) s m args below meth c H locs 0 0 Q (F0 m 37 ls [.int y6, .int 10, .ref h1]) := by
      intro y6 H locs ls ey6 hP hD hS hl
      refine r_ast hx hb hK hP hD hS 1 0 rfl rfl 10 rfl (Nat.le_of_ble_eq_true rfl) (Nat.le_of_ble_eq_true rfl) dX7_connect_37 (fun H locs hP hD hS => ?_)
      have hP : va_P D vwCl [(h0, .inr (7, [.ref h1, .long me, .ref h2, .ref h3, .ref h4, .ref h5, .int 0])), (h1, .inl (cI, 165, .inl (upd f 10 y6)))] H := hP
      have hD : va_D A [(h0, .inr (7, [.ref h1, .long me, .ref h2, .ref h3, .ref h4, .ref h5, .int 0])), (h1, .inl (cI, 165, .inl (upd f 10 y6)))] := hD
      refine lv_iload_n hx hb dX7_connect_38 rfl (lv_at hl 2 rfl) ?_
      exact hret _ _ _ _ _ _ _ _ (by subst ey3; subst ey6; first | with_reducible rfl | (simp only [r_X7_connect, a_h1_X7_connect]; done) | rfl) (by subst ey3; subst ey6; first | with_reducible rfl | (simp only [r_X7_connect, a_h1_X7_connect]; done) | rfl) hP hD hS (Nat.le_of_ble_eq_true rfl) (Nat.le_of_ble_eq_true rfl) dX7_connect_39
    refine lv_if_eq (tgt := 36) hx hb dX7_connect_29 (by decide) (fun c5 => ?_) (fun c5 => ?_)
    · refine lv_iconst (v := 0) hx hb dX7_connect_36 (by decide) ?_
      exact K37 _ _ _ _ (by subst ey3; first | with_reducible rfl | (simp only [if_pos c5]; done) | rfl) (hP.sub [0, 1] rfl) (hD.sub [0, 1] (by decide) rfl) hS (lv_sub hl [1, 2, 0] rfl)
    · refine lv_iconst (v := 1) hx hb dX7_connect_32 (by decide) ?_
      refine lv_goto (tgt := 37) hx hb dX7_connect_33 (by decide) ?_
      exact K37 _ _ _ _ (by subst ey3; first | with_reducible rfl | (simp only [if_neg c5]; done) | rfl) (hP.sub [0, 1] rfl) (hD.sub [0, 1] (by decide) rfl) hS (lv_sub hl [1, 2, 0] rfl)
  refine lv_icmp_ne (tgt := 20) hx hb dX7_connect_13 (by decide) (fun c2 => ?_) (fun c2 => ?_)
  · refine lv_iconst (v := 0) hx hb dX7_connect_20 (by decide) ?_
    exact K21 _ _ _ _ (by first | with_reducible rfl | (simp only [if_neg c2]; done) | rfl) (hP.sub [0, 1] rfl) (hD.sub [0, 1] (by decide) rfl) hS (lv_sub hl [0, 1] rfl)
  · refine lv_iconst (v := 1) hx hb dX7_connect_16 (by decide) ?_
    refine lv_goto (tgt := 21) hx hb dX7_connect_17 (by decide) ?_
    exact K21 _ _ _ _ (by first | with_reducible rfl | (simp only [if_pos c2]; done) | rfl) (hP.sub [0, 1] rfl) (hD.sub [0, 1] (by decide) rfl) hS (lv_sub hl [0, 1] rfl)

def a_h1_X7_note (f : Nat → Int32) (p0 : Int32) (q : Nat) : Nat → Int32 := (upd (upd (upd f (85 + q % 40) (f 0)) (125 + q % 40) p0) 32 ((f 32) + 1))
set_option maxHeartbeats 4000000 in
set_option maxRecDepth 100000 in
theorem mX7_note (l : Launch) (D : va_G) (cI cJ cZ cO : ClassId) (h0 : Nat) (h1 : Nat) (h2 : Nat) (h3 : Nat) (h4 : Nat) (h5 : Nat) (me : Int64) (tw : Int32) (f : Nat → Int32) (p0 : Int32) (q : Nat) (hq : f 32 = nI q) (hq2 : q < 2147483648) : MV l yX7_note wsX7_note ({ frames := 0, cells := 0, slots := 0, locals := 0 } : Room) D (tysK cI cJ cZ cO) [.ref h0, .int p0] [(h0, .inr (7, [.ref h1, .long me, .ref h2, .ref h3, .ref h4, .ref h5, .int tw])), (h1, .inl (cI, 165, .inl f))] (fun (_ : Unit) => [(h0, .inr (7, [.ref h1, .long me, .ref h2, .ref h3, .ref h4, .ref h5, .int tw])), (h1, .inl (cI, 165, .inl (a_h1_X7_note f p0 q)))]) := by
  refine MV.of (cc := cX7_note) (maxL := 2) (by decide) rfl (Nat.le_of_ble_eq_true rfl) ?_
  intro p e s m args below meth c A Q ls H locs B hin hS hP hD hl hret
  obtain ⟨hx, hb, hml, hown, hts, hK, hN, hA, hlocks⟩ := B
  have hi7 : ∀ w ∈ u_ws RX7 TX7 7, w ∈ wsX7_note := by decide +kernel
  have hl : lv_has ls 2 [(0, .ref h0), (1, .int p0)] := hl
  refine lv_aload_n hx hb dX7_note_0 rfl (lv_at hl 0 rfl) ?_
  refine va_get (D := D) (ci := 7) (v := .ref h1) (C := RX7) (T := TX7) (N := 7) hx hb hts hi7 hown hK hP 0 rfl rfl 0 (by decide) (hts (.fieldLink RX7 7 "GridInverterModel" "at" "[I") (by decide +kernel)) (fun _ h9 => h9) rfl dX7_note_1 ?_
  refine lv_bipush (v := 85) hx hb dX7_note_4 (by decide) ?_
  refine lv_aload_n hx hb dX7_note_6 rfl (lv_at hl 0 rfl) ?_
  refine va_get (D := D) (ci := 7) (v := .ref h1) (C := RX7) (T := TX7) (N := 7) hx hb hts hi7 hown hK hP 0 rfl rfl 0 (by decide) (hts (.fieldLink RX7 7 "GridInverterModel" "at" "[I") (by decide +kernel)) (fun _ h9 => h9) rfl dX7_note_7 ?_
  refine lv_bipush (v := 32) hx hb dX7_note_10 (by decide) ?_
  refine r_ald hx hb hK hP 1 0 rfl rfl 32 rfl (Nat.le_of_ble_eq_true rfl) (Nat.le_of_ble_eq_true rfl) (v := (f 32)) rfl dX7_note_12 ?_
  refine lv_bipush (v := 40) hx hb dX7_note_13 (by decide) ?_
  refine lv_irem hx hb dX7_note_15 (by decide) ?_
  refine lv_topi (fun x1 ex1 => ?_)
  refine lv_iadd hx hb dX7_note_16 ?_
  refine lv_aload_n hx hb dX7_note_17 rfl (lv_at hl 0 rfl) ?_
  refine va_get (D := D) (ci := 7) (v := .ref h1) (C := RX7) (T := TX7) (N := 7) hx hb hts hi7 hown hK hP 0 rfl rfl 0 (by decide) (hts (.fieldLink RX7 7 "GridInverterModel" "at" "[I") (by decide +kernel)) (fun _ h9 => h9) rfl dX7_note_18 ?_
  refine lv_iconst (v := 0) hx hb dX7_note_21 (by decide) ?_
  refine r_ald hx hb hK hP 1 0 rfl rfl 0 rfl (Nat.le_of_ble_eq_true rfl) (Nat.le_of_ble_eq_true rfl) (v := (f 0)) rfl dX7_note_22 ?_
  refine r_ast hx hb hK hP hD hS 1 0 rfl rfl (85 + q % 40) (by subst ex1; exact (rem_ix 85 40 hq hq2 (Nat.le_of_ble_eq_true rfl) (Nat.le_of_ble_eq_true rfl))) (by omega) (Nat.le_of_ble_eq_true rfl) dX7_note_23 (fun H locs hP hD hS => ?_)
  obtain ⟨x2, ex2⟩ : ∃ zz_, zz_ = (upd f (85 + q % 40) (f 0)) := ⟨_, rfl⟩
  have hP : va_P D vwCl [(h0, .inr (7, [.ref h1, .long me, .ref h2, .ref h3, .ref h4, .ref h5, .int tw])), (h1, .inl (cI, 165, .inl x2))] H := by rw [ex2]; exact hP
  have hD : va_D A [(h0, .inr (7, [.ref h1, .long me, .ref h2, .ref h3, .ref h4, .ref h5, .int tw])), (h1, .inl (cI, 165, .inl x2))] := by rw [ex2]; exact hD
  refine lv_aload_n hx hb dX7_note_24 rfl (lv_at hl 0 rfl) ?_
  refine va_get (D := D) (ci := 7) (v := .ref h1) (C := RX7) (T := TX7) (N := 7) hx hb hts hi7 hown hK hP 0 rfl rfl 0 (by decide) (hts (.fieldLink RX7 7 "GridInverterModel" "at" "[I") (by decide +kernel)) (fun _ h9 => h9) rfl dX7_note_25 ?_
  refine lv_bipush (v := 125) hx hb dX7_note_28 (by decide) ?_
  refine lv_aload_n hx hb dX7_note_30 rfl (lv_at hl 0 rfl) ?_
  refine va_get (D := D) (ci := 7) (v := .ref h1) (C := RX7) (T := TX7) (N := 7) hx hb hts hi7 hown hK hP 0 rfl rfl 0 (by decide) (hts (.fieldLink RX7 7 "GridInverterModel" "at" "[I") (by decide +kernel)) (fun _ h9 => h9) rfl dX7_note_31 ?_
  refine lv_bipush (v := 32) hx hb dX7_note_34 (by decide) ?_
  refine r_ald hx hb hK hP 1 0 rfl rfl 32 rfl (Nat.le_of_ble_eq_true rfl) (Nat.le_of_ble_eq_true rfl) (v := (f 32)) (by subst ex2; exact pk_un (by omega)) dX7_note_36 ?_
  refine lv_bipush (v := 40) hx hb dX7_note_37 (by decide) ?_
  refine lv_irem hx hb dX7_note_39 (by decide) ?_
  refine lv_topi (fun x3 ex3 => ?_)
  refine lv_iadd hx hb dX7_note_40 ?_
  refine lv_iload_n hx hb dX7_note_41 rfl (lv_at hl 1 rfl) ?_
  refine r_ast hx hb hK hP hD hS 1 0 rfl rfl (125 + q % 40) (by subst ex1; subst ex2; subst ex3; exact (rem_ix 125 40 hq hq2 (Nat.le_of_ble_eq_true rfl) (Nat.le_of_ble_eq_true rfl))) (by omega) (Nat.le_of_ble_eq_true rfl) dX7_note_42 (fun H locs hP hD hS => ?_)
  have hP : va_P D vwCl [(h0, .inr (7, [.ref h1, .long me, .ref h2, .ref h3, .ref h4, .ref h5, .int tw])), (h1, .inl (cI, 165, .inl (upd x2 (125 + q % 40) p0)))] H := hP
  have hD : va_D A [(h0, .inr (7, [.ref h1, .long me, .ref h2, .ref h3, .ref h4, .ref h5, .int tw])), (h1, .inl (cI, 165, .inl (upd x2 (125 + q % 40) p0)))] := hD
  refine lv_aload_n hx hb dX7_note_43 rfl (lv_at hl 0 rfl) ?_
  refine va_get (D := D) (ci := 7) (v := .ref h1) (C := RX7) (T := TX7) (N := 7) hx hb hts hi7 hown hK hP 0 rfl rfl 0 (by decide) (hts (.fieldLink RX7 7 "GridInverterModel" "at" "[I") (by decide +kernel)) (fun _ h9 => h9) rfl dX7_note_44 ?_
  refine lv_bipush (v := 32) hx hb dX7_note_47 (by decide) ?_
  refine lv_dup2_11 hx hb dX7_note_49 rfl rfl ?_
  refine r_ald hx hb hK hP 1 0 rfl rfl 32 rfl (Nat.le_of_ble_eq_true rfl) (Nat.le_of_ble_eq_true rfl) (v := (f 32)) (by subst ex2; exact (pk_un (by omega)).trans (pk_un (by omega))) dX7_note_50 ?_
  refine lv_iconst (v := 1) hx hb dX7_note_51 (by decide) ?_
  refine lv_iadd hx hb dX7_note_52 ?_
  refine r_ast hx hb hK hP hD hS 1 0 rfl rfl 32 rfl (Nat.le_of_ble_eq_true rfl) (Nat.le_of_ble_eq_true rfl) dX7_note_53 (fun H locs hP hD hS => ?_)
  obtain ⟨x4, ex4⟩ : ∃ zz_, zz_ = (upd (upd x2 (125 + q % 40) p0) 32 ((f 32) + 1)) := ⟨_, rfl⟩
  have hP : va_P D vwCl [(h0, .inr (7, [.ref h1, .long me, .ref h2, .ref h3, .ref h4, .ref h5, .int tw])), (h1, .inl (cI, 165, .inl x4))] H := by rw [ex4]; exact hP
  have hD : va_D A [(h0, .inr (7, [.ref h1, .long me, .ref h2, .ref h3, .ref h4, .ref h5, .int tw])), (h1, .inl (cI, 165, .inl x4))] := by rw [ex4]; exact hD
  exact hret () _ _ _ _ _ _ _ (by subst ex1; subst ex2; subst ex3; subst ex4; first | with_reducible rfl | (simp only [a_h1_X7_note]; done) | rfl) hP hD hS (Nat.le_of_ble_eq_true rfl) (Nat.le_of_ble_eq_true rfl) dX7_note_54

def r_X7_start (f : Nat → Int32) : Int32 := (if (f 20) = 2 then 1 else 0 : Int32)
def a_h1_X7_start (f : Nat → Int32) : Nat → Int32 := (if (if (f 20) = 2 then 1 else 0 : Int32) = 0 then f else (upd (upd f 20 0) 8 0) : Nat → Int32)
set_option maxHeartbeats 4000000 in
set_option maxRecDepth 100000 in
theorem mX7_start (l : Launch) (D : va_G) (cI cJ cZ cO : ClassId) (h0 : Nat) (h1 : Nat) (h2 : Nat) (h3 : Nat) (h4 : Nat) (h5 : Nat) (me : Int64) (tw : Int32) (f : Nat → Int32) : MI l yX7_start wsX7_start ({ frames := 0, cells := 0, slots := 0, locals := 0 } : Room) D (tysK cI cJ cZ cO) [.ref h0] [(h0, .inr (7, [.ref h1, .long me, .ref h2, .ref h3, .ref h4, .ref h5, .int tw])), (h1, .inl (cI, 165, .inl f))] (r_X7_start f) [(h0, .inr (7, [.ref h1, .long me, .ref h2, .ref h3, .ref h4, .ref h5, .int 0])), (h1, .inl (cI, 165, .inl (a_h1_X7_start f)))] := by
  refine MI.of (cc := cX7_start) (maxL := 2) (ret := .boolean) (by decide) rfl (Nat.le_of_ble_eq_true rfl) (by simp only [r_X7_start, a_h1_X7_start]; first | rfl | (repeat' split) <;> rfl) ?_
  intro p e s m args below meth c A Q ls H locs B hS hP hD hl hret
  obtain ⟨hx, hb, hml, hown, hts, hK, hN, hA, hlocks⟩ := B
  have hi7 : ∀ w ∈ u_ws RX7 TX7 7, w ∈ wsX7_start := by decide +kernel
  have hl : lv_has ls 2 [(0, .ref h0)] := hl
  refine lv_aload_n hx hb dX7_start_0 rfl (lv_at hl 0 rfl) ?_
  refine lv_iconst (v := 0) hx hb dX7_start_1 (by decide) ?_
  refine va_put (D := D) (ci := 7) (v := .int 0) (ty := .int) (C := RX7) (T := TX7) (N := 7) hx hb hts hi7 tyX7 tyX7_ok nmX7 hown hK hP hD hS 0 rfl rfl 6 (by decide) (hts (.fieldLink RX7 30 "GridInverterModel" "thrown" "I") (by decide +kernel)) (fun _ h9 => h9) rfl (by decide +kernel) rfl rfl (Nat.le_of_ble_eq_true rfl) dX7_start_2 (fun H locs hP hD hS => ?_)
  have hP : va_P D vwCl [(h0, .inr (7, [.ref h1, .long me, .ref h2, .ref h3, .ref h4, .ref h5, .int 0])), (h1, .inl (cI, 165, .inl f))] H := hP
  have hD : va_D A [(h0, .inr (7, [.ref h1, .long me, .ref h2, .ref h3, .ref h4, .ref h5, .int 0])), (h1, .inl (cI, 165, .inl f))] := hD
  refine lv_aload_n hx hb dX7_start_5 rfl (lv_at hl 0 rfl) ?_
  refine va_get (D := D) (ci := 7) (v := .ref h1) (C := RX7) (T := TX7) (N := 7) hx hb hts hi7 hown hK hP 0 rfl rfl 0 (by decide) (hts (.fieldLink RX7 7 "GridInverterModel" "at" "[I") (by decide +kernel)) (fun _ h9 => h9) rfl dX7_start_6 ?_
  refine lv_bipush (v := 20) hx hb dX7_start_9 (by decide) ?_
  refine r_ald hx hb hK hP 1 0 rfl rfl 20 rfl (Nat.le_of_ble_eq_true rfl) (Nat.le_of_ble_eq_true rfl) (v := (f 20)) rfl dX7_start_11 ?_
  refine lv_iconst (v := 2) hx hb dX7_start_12 (by decide) ?_
  have K21 : ∀ (y3 : Int32) (H : Heap) (locs : List Loc) (ls : Array Slot), y3 = (if (f 20) = 2 then 1 else 0 : Int32) → va_P D vwCl [(h0, .inr (7, [.ref h1, .long me, .ref h2, .ref h3, .ref h4, .ref h5, .int 0])), (h1, .inl (cI, 165, .inl f))] H → va_D A [(h0, .inr (7, [.ref h1, .long me, .ref h2, .ref h3, .ref h4, .ref h5, .int 0])), (h1, .inl (cI, 165, .inl f))] → va_S A s.heap H locs → lv_has ls 2 [(0, .ref h0)] → W p l e ({ frames := 0, cells := 0, slots := 0, locals := 0 } : Room) s m args below meth c H locs 0 0 Q (F0 m 21 ls [.int y3]) := by
    intro y3 H locs ls ey3 hP hD hS hl
    refine lv_istore_n (lv' := [(1, .int y3), (0, .ref h0)]) hx hb dX7_start_21 rfl hl (by decide) rfl (fun ls hl => ?_)
    refine lv_iload_n hx hb dX7_start_22 rfl (lv_at hl 0 rfl) ?_
    have K42 : ∀ (y6 : Nat → Int32) (H : Heap) (locs : List Loc) (ls : Array Slot), y6 = (if (if (f 20) = 2 then 1 else 0 : Int32) = 0 then f else (upd (upd f 20 0) 8 0) : Nat → Int32) → va_P D vwCl [(h0, .inr (7, [.ref h1, .long me, .ref h2, .ref h3, .ref h4, .ref h5, .int 0])), (h1, .inl (cI, 165, .inl y6))] H → va_D A [(h0, .inr (7, [.ref h1, .long me, .ref h2, .ref h3, .ref h4, .ref h5, .int 0])), (h1, .inl (cI, 165, .inl y6))] → va_S A s.heap H locs → lv_has ls 2 [(0, .ref h0), (1, .int y3)] → W p l e ({ frames := 0, cells := 0, slots := 0, locals := 0 } : Room) s m args below meth c H locs 0 0 Q (F0 m 42 ls []) := by
      intro y6 H locs ls ey6 hP hD hS hl
      refine lv_iload_n hx hb dX7_start_42 rfl (lv_at hl 1 rfl) ?_
      exact hret _ _ _ _ _ _ _ _ (by subst ey3; subst ey6; first | with_reducible rfl | (simp only [r_X7_start, a_h1_X7_start]; done) | rfl) (by subst ey3; subst ey6; first | with_reducible rfl | (simp only [r_X7_start, a_h1_X7_start]; done) | rfl) hP hD hS (Nat.le_of_ble_eq_true rfl) (Nat.le_of_ble_eq_true rfl) dX7_start_43
    refine lv_if_eq (tgt := 42) hx hb dX7_start_23 (by decide) (fun c5 => ?_) (fun c5 => ?_)
    · exact K42 _ _ _ _ (by subst ey3; first | with_reducible rfl | (simp only [if_pos c5]; done) | rfl) (hP.sub [0, 1] rfl) (hD.sub [0, 1] (by decide) rfl) hS (lv_sub hl [1, 0] rfl)
    · refine lv_aload_n hx hb dX7_start_26 rfl (lv_at hl 1 rfl) ?_
      refine va_get (D := D) (ci := 7) (v := .ref h1) (C := RX7) (T := TX7) (N := 7) hx hb hts hi7 hown hK hP 0 rfl rfl 0 (by decide) (hts (.fieldLink RX7 7 "GridInverterModel" "at" "[I") (by decide +kernel)) (fun _ h9 => h9) rfl dX7_start_27 ?_
      refine lv_bipush (v := 20) hx hb dX7_start_30 (by decide) ?_
      refine lv_iconst (v := 0) hx hb dX7_start_32 (by decide) ?_
      refine r_ast hx hb hK hP hD hS 1 0 rfl rfl 20 rfl (Nat.le_of_ble_eq_true rfl) (Nat.le_of_ble_eq_true rfl) dX7_start_33 (fun H locs hP hD hS => ?_)
      have hP : va_P D vwCl [(h0, .inr (7, [.ref h1, .long me, .ref h2, .ref h3, .ref h4, .ref h5, .int 0])), (h1, .inl (cI, 165, .inl (upd f 20 0)))] H := hP
      have hD : va_D A [(h0, .inr (7, [.ref h1, .long me, .ref h2, .ref h3, .ref h4, .ref h5, .int 0])), (h1, .inl (cI, 165, .inl (upd f 20 0)))] := hD
      refine lv_aload_n hx hb dX7_start_34 rfl (lv_at hl 1 rfl) ?_
      refine va_get (D := D) (ci := 7) (v := .ref h1) (C := RX7) (T := TX7) (N := 7) hx hb hts hi7 hown hK hP 0 rfl rfl 0 (by decide) (hts (.fieldLink RX7 7 "GridInverterModel" "at" "[I") (by decide +kernel)) (fun _ h9 => h9) rfl dX7_start_35 ?_
      refine lv_bipush (v := 8) hx hb dX7_start_38 (by decide) ?_
      refine lv_iconst (v := 0) hx hb dX7_start_40 (by decide) ?_
      refine r_ast hx hb hK hP hD hS 1 0 rfl rfl 8 rfl (Nat.le_of_ble_eq_true rfl) (Nat.le_of_ble_eq_true rfl) dX7_start_41 (fun H locs hP hD hS => ?_)
      have hP : va_P D vwCl [(h0, .inr (7, [.ref h1, .long me, .ref h2, .ref h3, .ref h4, .ref h5, .int 0])), (h1, .inl (cI, 165, .inl (upd (upd f 20 0) 8 0)))] H := hP
      have hD : va_D A [(h0, .inr (7, [.ref h1, .long me, .ref h2, .ref h3, .ref h4, .ref h5, .int 0])), (h1, .inl (cI, 165, .inl (upd (upd f 20 0) 8 0)))] := hD
      exact K42 _ _ _ _ (by subst ey3; first | with_reducible rfl | (simp only [if_neg c5]; done) | rfl) (hP.sub [0, 1] rfl) (hD.sub [0, 1] (by decide) rfl) hS (lv_sub hl [1, 0] rfl)
  refine lv_icmp_ne (tgt := 20) hx hb dX7_start_13 (by decide) (fun c2 => ?_) (fun c2 => ?_)
  · refine lv_iconst (v := 0) hx hb dX7_start_20 (by decide) ?_
    exact K21 _ _ _ _ (by first | with_reducible rfl | (simp only [if_neg c2]; done) | rfl) (hP.sub [0, 1] rfl) (hD.sub [0, 1] (by decide) rfl) hS (lv_sub hl [0] rfl)
  · refine lv_iconst (v := 1) hx hb dX7_start_16 (by decide) ?_
    refine lv_goto (tgt := 21) hx hb dX7_start_17 (by decide) ?_
    exact K21 _ _ _ _ (by first | with_reducible rfl | (simp only [if_pos c2]; done) | rfl) (hP.sub [0, 1] rfl) (hD.sub [0, 1] (by decide) rfl) hS (lv_sub hl [0] rfl)

def r_X7_stop (f : Nat → Int32) : Int32 := (if (f 20) = 1 then 1 else 0 : Int32)
def a_h1_X7_stop (f : Nat → Int32) (q : Nat) : Nat → Int32 := (upd (upd (if (if (f 20) = 1 then 1 else 0 : Int32) = 0 then f else (a_h1_X7_note f 102 q) : Nat → Int32) 20 2) 9 0)
set_option maxHeartbeats 4000000 in
set_option maxRecDepth 100000 in
theorem mX7_stop (l : Launch) (D : va_G) (cI cJ cZ cO : ClassId) (h0 : Nat) (h1 : Nat) (h2 : Nat) (h3 : Nat) (h4 : Nat) (h5 : Nat) (me : Int64) (tw : Int32) (f : Nat → Int32) (q : Nat) (hq : f 32 = nI q) (hq2 : q < 2147483648) : MI l yX7_stop wsX7_stop ({ frames := 1, cells := 0, slots := 0, locals := 21 } : Room) D (tysK cI cJ cZ cO) [.ref h0] [(h0, .inr (7, [.ref h1, .long me, .ref h2, .ref h3, .ref h4, .ref h5, .int tw])), (h1, .inl (cI, 165, .inl f))] (r_X7_stop f) [(h0, .inr (7, [.ref h1, .long me, .ref h2, .ref h3, .ref h4, .ref h5, .int 0])), (h1, .inl (cI, 165, .inl (a_h1_X7_stop f q)))] := by
  refine MI.of (cc := cX7_stop) (maxL := 2) (ret := .boolean) (by decide) rfl (Nat.le_of_ble_eq_true rfl) (by simp only [r_X7_stop, a_h1_X7_stop]; first | rfl | (repeat' split) <;> rfl) ?_
  intro p e s m args below meth c A Q ls H locs B hS hP hD hl hret
  obtain ⟨hx, hb, hml, hown, hts, hK, hN, hA, hlocks⟩ := B
  have hi7 : ∀ w ∈ u_ws RX7 TX7 7, w ∈ wsX7_stop := by decide +kernel
  have hl : lv_has ls 2 [(0, .ref h0)] := hl
  refine lv_aload_n hx hb dX7_stop_0 rfl (lv_at hl 0 rfl) ?_
  refine lv_iconst (v := 0) hx hb dX7_stop_1 (by decide) ?_
  refine va_put (D := D) (ci := 7) (v := .int 0) (ty := .int) (C := RX7) (T := TX7) (N := 7) hx hb hts hi7 tyX7 tyX7_ok nmX7 hown hK hP hD hS 0 rfl rfl 6 (by decide) (hts (.fieldLink RX7 30 "GridInverterModel" "thrown" "I") (by decide +kernel)) (fun _ h9 => h9) rfl (by decide +kernel) rfl rfl (Nat.le_of_ble_eq_true rfl) dX7_stop_2 (fun H locs hP hD hS => ?_)
  have hP : va_P D vwCl [(h0, .inr (7, [.ref h1, .long me, .ref h2, .ref h3, .ref h4, .ref h5, .int 0])), (h1, .inl (cI, 165, .inl f))] H := hP
  have hD : va_D A [(h0, .inr (7, [.ref h1, .long me, .ref h2, .ref h3, .ref h4, .ref h5, .int 0])), (h1, .inl (cI, 165, .inl f))] := hD
  refine lv_aload_n hx hb dX7_stop_5 rfl (lv_at hl 0 rfl) ?_
  refine va_get (D := D) (ci := 7) (v := .ref h1) (C := RX7) (T := TX7) (N := 7) hx hb hts hi7 hown hK hP 0 rfl rfl 0 (by decide) (hts (.fieldLink RX7 7 "GridInverterModel" "at" "[I") (by decide +kernel)) (fun _ h9 => h9) rfl dX7_stop_6 ?_
  refine lv_bipush (v := 20) hx hb dX7_stop_9 (by decide) ?_
  refine r_ald hx hb hK hP 1 0 rfl rfl 20 rfl (Nat.le_of_ble_eq_true rfl) (Nat.le_of_ble_eq_true rfl) (v := (f 20)) rfl dX7_stop_11 ?_
  refine lv_iconst (v := 1) hx hb dX7_stop_12 (by decide) ?_
  have K21 : ∀ (y3 : Int32) (H : Heap) (locs : List Loc) (ls : Array Slot), y3 = (if (f 20) = 1 then 1 else 0 : Int32) → va_P D vwCl [(h0, .inr (7, [.ref h1, .long me, .ref h2, .ref h3, .ref h4, .ref h5, .int 0])), (h1, .inl (cI, 165, .inl f))] H → va_D A [(h0, .inr (7, [.ref h1, .long me, .ref h2, .ref h3, .ref h4, .ref h5, .int 0])), (h1, .inl (cI, 165, .inl f))] → va_S A s.heap H locs → lv_has ls 2 [(0, .ref h0)] → W p l e ({ frames := 1, cells := 0, slots := 0, locals := 21 } : Room) s m args below meth c H locs 0 0 Q (F0 m 21 ls [.int y3]) := by
    intro y3 H locs ls ey3 hP hD hS hl
    refine lv_istore_n (lv' := [(1, .int y3), (0, .ref h0)]) hx hb dX7_stop_21 rfl hl (by decide) rfl (fun ls hl => ?_)
    refine lv_iload_n hx hb dX7_stop_22 rfl (lv_at hl 0 rfl) ?_
    have K32 : ∀ (y6 : Nat → Int32) (H : Heap) (locs : List Loc) (ls : Array Slot), y6 = (if (if (f 20) = 1 then 1 else 0 : Int32) = 0 then f else (a_h1_X7_note f 102 q) : Nat → Int32) → va_P D vwCl [(h0, .inr (7, [.ref h1, .long me, .ref h2, .ref h3, .ref h4, .ref h5, .int 0])), (h1, .inl (cI, 165, .inl y6))] H → va_D A [(h0, .inr (7, [.ref h1, .long me, .ref h2, .ref h3, .ref h4, .ref h5, .int 0])), (h1, .inl (cI, 165, .inl y6))] → va_S A s.heap H locs → lv_has ls 2 [(0, .ref h0), (1, .int y3)] → W p l e ({ frames := 1, cells := 0, slots := 0, locals := 21 } : Room) s m args below meth c H locs 0 0 Q (F0 m 32 ls []) := by
      intro y6 H locs ls ey6 hP hD hS hl
      refine lv_aload_n hx hb dX7_stop_32 rfl (lv_at hl 0 rfl) ?_
      refine va_get (D := D) (ci := 7) (v := .ref h1) (C := RX7) (T := TX7) (N := 7) hx hb hts hi7 hown hK hP 0 rfl rfl 0 (by decide) (hts (.fieldLink RX7 7 "GridInverterModel" "at" "[I") (by decide +kernel)) (fun _ h9 => h9) rfl dX7_stop_33 ?_
      refine lv_bipush (v := 20) hx hb dX7_stop_36 (by decide) ?_
      refine lv_iconst (v := 2) hx hb dX7_stop_38 (by decide) ?_
      refine r_ast hx hb hK hP hD hS 1 0 rfl rfl 20 rfl (Nat.le_of_ble_eq_true rfl) (Nat.le_of_ble_eq_true rfl) dX7_stop_39 (fun H locs hP hD hS => ?_)
      have hP : va_P D vwCl [(h0, .inr (7, [.ref h1, .long me, .ref h2, .ref h3, .ref h4, .ref h5, .int 0])), (h1, .inl (cI, 165, .inl (upd y6 20 2)))] H := hP
      have hD : va_D A [(h0, .inr (7, [.ref h1, .long me, .ref h2, .ref h3, .ref h4, .ref h5, .int 0])), (h1, .inl (cI, 165, .inl (upd y6 20 2)))] := hD
      refine lv_aload_n hx hb dX7_stop_40 rfl (lv_at hl 0 rfl) ?_
      refine va_get (D := D) (ci := 7) (v := .ref h1) (C := RX7) (T := TX7) (N := 7) hx hb hts hi7 hown hK hP 0 rfl rfl 0 (by decide) (hts (.fieldLink RX7 7 "GridInverterModel" "at" "[I") (by decide +kernel)) (fun _ h9 => h9) rfl dX7_stop_41 ?_
      refine lv_bipush (v := 9) hx hb dX7_stop_44 (by decide) ?_
      refine lv_iconst (v := 0) hx hb dX7_stop_46 (by decide) ?_
      refine r_ast hx hb hK hP hD hS 1 0 rfl rfl 9 rfl (Nat.le_of_ble_eq_true rfl) (Nat.le_of_ble_eq_true rfl) dX7_stop_47 (fun H locs hP hD hS => ?_)
      have hP : va_P D vwCl [(h0, .inr (7, [.ref h1, .long me, .ref h2, .ref h3, .ref h4, .ref h5, .int 0])), (h1, .inl (cI, 165, .inl (upd (upd y6 20 2) 9 0)))] H := hP
      have hD : va_D A [(h0, .inr (7, [.ref h1, .long me, .ref h2, .ref h3, .ref h4, .ref h5, .int 0])), (h1, .inl (cI, 165, .inl (upd (upd y6 20 2) 9 0)))] := hD
      refine lv_iload_n hx hb dX7_stop_48 rfl (lv_at hl 1 rfl) ?_
      exact hret _ _ _ _ _ _ _ _ (by subst ey3; subst ey6; first | with_reducible rfl | (simp only [r_X7_stop, a_h1_X7_stop]; done) | rfl) (by subst ey3; subst ey6; first | with_reducible rfl | (simp only [r_X7_stop, a_h1_X7_stop]; done) | rfl) hP hD hS (Nat.le_of_ble_eq_true rfl) (Nat.le_of_ble_eq_true rfl) dX7_stop_49
    refine lv_if_eq (tgt := 32) hx hb dX7_stop_23 (by decide) (fun c5 => ?_) (fun c5 => ?_)
    · exact K32 _ _ _ _ (by subst ey3; first | with_reducible rfl | (simp only [if_pos c5]; done) | rfl) (hP.sub [0, 1] rfl) (hD.sub [0, 1] (by decide) rfl) hS (lv_sub hl [1, 0] rfl)
    · refine lv_aload_n hx hb dX7_stop_26 rfl (lv_at hl 1 rfl) ?_
      refine lv_bipush (v := 102) hx hb dX7_stop_27 (by decide) ?_
      refine call_v (wr := []) (k := 0) (n := 0) (run_V (As := [.int 102]) (rest := []) ⟨hx, hb, hml, hown, hts⟩ (mX7_note l D cI cJ cZ cO h0 h1 h2 h3 h4 h5 me 0 f 102 q hq hq2 H.size) (cwV 1 hts gX7_stop_X7_note rfl rfl rfl (by decide +kernel) ⟨Nat.le_of_ble_eq_true rfl, Nat.le_of_ble_eq_true rfl⟩) hK hN hP hD [0, 1] (by decide) rfl 7 0 rfl rfl rfl rfl rfl hl.1 (Nat.le_of_ble_eq_true rfl) dX7_stop_29 ⟨Nat.le_of_ble_eq_true rfl, Nat.le_of_ble_eq_true rfl⟩) hP hD hS hA [0, 1] [] rfl rfl (by decide) (by decide) (Nat.le_of_ble_eq_true rfl) (Nat.le_of_ble_eq_true rfl) (fun _ H locs hP hD hS => ?_)
      have hP : va_P D vwCl [(h0, .inr (7, [.ref h1, .long me, .ref h2, .ref h3, .ref h4, .ref h5, .int 0])), (h1, .inl (cI, 165, .inl (a_h1_X7_note f 102 q)))] H := hP
      have hD : va_D A [(h0, .inr (7, [.ref h1, .long me, .ref h2, .ref h3, .ref h4, .ref h5, .int 0])), (h1, .inl (cI, 165, .inl (a_h1_X7_note f 102 q)))] := hD
      exact K32 _ _ _ _ (by subst ey3; first | with_reducible rfl | (simp only [if_neg c5]; done) | rfl) (hP.sub [0, 1] rfl) (hD.sub [0, 1] (by decide) rfl) hS (lv_sub hl [1, 0] rfl)
  refine lv_icmp_ne (tgt := 20) hx hb dX7_stop_13 (by decide) (fun c2 => ?_) (fun c2 => ?_)
  · refine lv_iconst (v := 0) hx hb dX7_stop_20 (by decide) ?_
    exact K21 _ _ _ _ (by first | with_reducible rfl | (simp only [if_neg c2]; done) | rfl) (hP.sub [0, 1] rfl) (hD.sub [0, 1] (by decide) rfl) hS (lv_sub hl [0] rfl)
  · refine lv_iconst (v := 1) hx hb dX7_stop_16 (by decide) ?_
    refine lv_goto (tgt := 21) hx hb dX7_stop_17 (by decide) ?_
    exact K21 _ _ _ _ (by first | with_reducible rfl | (simp only [if_pos c2]; done) | rfl) (hP.sub [0, 1] rfl) (hD.sub [0, 1] (by decide) rfl) hS (lv_sub hl [0] rfl)

def r_X7_clearRules (f : Nat → Int32) : Int32 := (f 30)
def a_h1_X7_clearRules (f : Nat → Int32) : Nat → Int32 := (upd f 30 0)
set_option maxHeartbeats 4000000 in
set_option maxRecDepth 100000 in
theorem mX7_clearRules (l : Launch) (D : va_G) (cI cJ cZ cO : ClassId) (h0 : Nat) (h1 : Nat) (h2 : Nat) (h3 : Nat) (h4 : Nat) (h5 : Nat) (me : Int64) (tw : Int32) (f : Nat → Int32) : MI l yX7_clearRules wsX7_clearRules ({ frames := 0, cells := 0, slots := 0, locals := 0 } : Room) D (tysK cI cJ cZ cO) [.ref h0] [(h0, .inr (7, [.ref h1, .long me, .ref h2, .ref h3, .ref h4, .ref h5, .int tw])), (h1, .inl (cI, 165, .inl f))] (r_X7_clearRules f) [(h0, .inr (7, [.ref h1, .long me, .ref h2, .ref h3, .ref h4, .ref h5, .int 0])), (h1, .inl (cI, 165, .inl (a_h1_X7_clearRules f)))] := by
  refine MI.of (cc := cX7_clearRules) (maxL := 2) (ret := .int) (by decide) rfl (Nat.le_of_ble_eq_true rfl) rfl ?_
  intro p e s m args below meth c A Q ls H locs B hS hP hD hl hret
  obtain ⟨hx, hb, hml, hown, hts, hK, hN, hA, hlocks⟩ := B
  have hi7 : ∀ w ∈ u_ws RX7 TX7 7, w ∈ wsX7_clearRules := by decide +kernel
  have hl : lv_has ls 2 [(0, .ref h0)] := hl
  refine lv_aload_n hx hb dX7_clearRules_0 rfl (lv_at hl 0 rfl) ?_
  refine lv_iconst (v := 0) hx hb dX7_clearRules_1 (by decide) ?_
  refine va_put (D := D) (ci := 7) (v := .int 0) (ty := .int) (C := RX7) (T := TX7) (N := 7) hx hb hts hi7 tyX7 tyX7_ok nmX7 hown hK hP hD hS 0 rfl rfl 6 (by decide) (hts (.fieldLink RX7 30 "GridInverterModel" "thrown" "I") (by decide +kernel)) (fun _ h9 => h9) rfl (by decide +kernel) rfl rfl (Nat.le_of_ble_eq_true rfl) dX7_clearRules_2 (fun H locs hP hD hS => ?_)
  have hP : va_P D vwCl [(h0, .inr (7, [.ref h1, .long me, .ref h2, .ref h3, .ref h4, .ref h5, .int 0])), (h1, .inl (cI, 165, .inl f))] H := hP
  have hD : va_D A [(h0, .inr (7, [.ref h1, .long me, .ref h2, .ref h3, .ref h4, .ref h5, .int 0])), (h1, .inl (cI, 165, .inl f))] := hD
  refine lv_aload_n hx hb dX7_clearRules_5 rfl (lv_at hl 0 rfl) ?_
  refine va_get (D := D) (ci := 7) (v := .ref h1) (C := RX7) (T := TX7) (N := 7) hx hb hts hi7 hown hK hP 0 rfl rfl 0 (by decide) (hts (.fieldLink RX7 7 "GridInverterModel" "at" "[I") (by decide +kernel)) (fun _ h9 => h9) rfl dX7_clearRules_6 ?_
  refine lv_bipush (v := 30) hx hb dX7_clearRules_9 (by decide) ?_
  refine r_ald hx hb hK hP 1 0 rfl rfl 30 rfl (Nat.le_of_ble_eq_true rfl) (Nat.le_of_ble_eq_true rfl) (v := (f 30)) rfl dX7_clearRules_11 ?_
  refine lv_istore_n (lv' := [(1, .int (f 30)), (0, .ref h0)]) hx hb dX7_clearRules_12 rfl hl (by decide) rfl (fun ls hl => ?_)
  refine lv_aload_n hx hb dX7_clearRules_13 rfl (lv_at hl 1 rfl) ?_
  refine va_get (D := D) (ci := 7) (v := .ref h1) (C := RX7) (T := TX7) (N := 7) hx hb hts hi7 hown hK hP 0 rfl rfl 0 (by decide) (hts (.fieldLink RX7 7 "GridInverterModel" "at" "[I") (by decide +kernel)) (fun _ h9 => h9) rfl dX7_clearRules_14 ?_
  refine lv_bipush (v := 30) hx hb dX7_clearRules_17 (by decide) ?_
  refine lv_iconst (v := 0) hx hb dX7_clearRules_19 (by decide) ?_
  refine r_ast hx hb hK hP hD hS 1 0 rfl rfl 30 rfl (Nat.le_of_ble_eq_true rfl) (Nat.le_of_ble_eq_true rfl) dX7_clearRules_20 (fun H locs hP hD hS => ?_)
  have hP : va_P D vwCl [(h0, .inr (7, [.ref h1, .long me, .ref h2, .ref h3, .ref h4, .ref h5, .int 0])), (h1, .inl (cI, 165, .inl (upd f 30 0)))] H := hP
  have hD : va_D A [(h0, .inr (7, [.ref h1, .long me, .ref h2, .ref h3, .ref h4, .ref h5, .int 0])), (h1, .inl (cI, 165, .inl (upd f 30 0)))] := hD
  refine lv_iload_n hx hb dX7_clearRules_21 rfl (lv_at hl 0 rfl) ?_
  exact hret _ _ _ _ _ _ _ _ (by first | with_reducible rfl | (simp only [r_X7_clearRules, a_h1_X7_clearRules]; done) | rfl) (by first | with_reducible rfl | (simp only [r_X7_clearRules, a_h1_X7_clearRules]; done) | rfl) hP hD hS (Nat.le_of_ble_eq_true rfl) (Nat.le_of_ble_eq_true rfl) dX7_clearRules_22

def r_X7_state (f : Nat → Int32) : Int32 := (f 20)
set_option maxHeartbeats 4000000 in
set_option maxRecDepth 100000 in
theorem mX7_state (l : Launch) (D : va_G) (cI cJ cZ cO : ClassId) (h0 : Nat) (h1 : Nat) (h2 : Nat) (h3 : Nat) (h4 : Nat) (h5 : Nat) (me : Int64) (tw : Int32) (f : Nat → Int32) : MI l yX7_state wsX7_state ({ frames := 0, cells := 0, slots := 0, locals := 0 } : Room) D (tysK cI cJ cZ cO) [.ref h0] [(h0, .inr (7, [.ref h1, .long me, .ref h2, .ref h3, .ref h4, .ref h5, .int tw])), (h1, .inl (cI, 165, .inl f))] (r_X7_state f) [(h0, .inr (7, [.ref h1, .long me, .ref h2, .ref h3, .ref h4, .ref h5, .int 0])), (h1, .inl (cI, 165, .inl f))] := by
  refine MI.of (cc := cX7_state) (maxL := 1) (ret := .int) (by decide) rfl (Nat.le_of_ble_eq_true rfl) rfl ?_
  intro p e s m args below meth c A Q ls H locs B hS hP hD hl hret
  obtain ⟨hx, hb, hml, hown, hts, hK, hN, hA, hlocks⟩ := B
  have hi7 : ∀ w ∈ u_ws RX7 TX7 7, w ∈ wsX7_state := by decide +kernel
  have hl : lv_has ls 1 [(0, .ref h0)] := hl
  refine lv_aload_n hx hb dX7_state_0 rfl (lv_at hl 0 rfl) ?_
  refine lv_iconst (v := 0) hx hb dX7_state_1 (by decide) ?_
  refine va_put (D := D) (ci := 7) (v := .int 0) (ty := .int) (C := RX7) (T := TX7) (N := 7) hx hb hts hi7 tyX7 tyX7_ok nmX7 hown hK hP hD hS 0 rfl rfl 6 (by decide) (hts (.fieldLink RX7 30 "GridInverterModel" "thrown" "I") (by decide +kernel)) (fun _ h9 => h9) rfl (by decide +kernel) rfl rfl (Nat.le_of_ble_eq_true rfl) dX7_state_2 (fun H locs hP hD hS => ?_)
  have hP : va_P D vwCl [(h0, .inr (7, [.ref h1, .long me, .ref h2, .ref h3, .ref h4, .ref h5, .int 0])), (h1, .inl (cI, 165, .inl f))] H := hP
  have hD : va_D A [(h0, .inr (7, [.ref h1, .long me, .ref h2, .ref h3, .ref h4, .ref h5, .int 0])), (h1, .inl (cI, 165, .inl f))] := hD
  refine lv_aload_n hx hb dX7_state_5 rfl (lv_at hl 0 rfl) ?_
  refine va_get (D := D) (ci := 7) (v := .ref h1) (C := RX7) (T := TX7) (N := 7) hx hb hts hi7 hown hK hP 0 rfl rfl 0 (by decide) (hts (.fieldLink RX7 7 "GridInverterModel" "at" "[I") (by decide +kernel)) (fun _ h9 => h9) rfl dX7_state_6 ?_
  refine lv_bipush (v := 20) hx hb dX7_state_9 (by decide) ?_
  refine r_ald hx hb hK hP 1 0 rfl rfl 20 rfl (Nat.le_of_ble_eq_true rfl) (Nat.le_of_ble_eq_true rfl) (v := (f 20)) rfl dX7_state_11 ?_
  exact hret _ _ _ _ _ _ _ _ (by first | with_reducible rfl | (simp only [r_X7_state]; done) | rfl) (by first | with_reducible rfl | (simp only [r_X7_state]; done) | rfl) hP hD hS (Nat.le_of_ble_eq_true rfl) (Nat.le_of_ble_eq_true rfl) dX7_state_12

def r_X7_isLocked (f : Nat → Int32) : Int32 := (r_X7_hasLock f)
set_option maxHeartbeats 4000000 in
set_option maxRecDepth 100000 in
theorem mX7_isLocked (l : Launch) (D : va_G) (cI cJ cZ cO : ClassId) (h0 : Nat) (h1 : Nat) (h2 : Nat) (h3 : Nat) (h4 : Nat) (h5 : Nat) (me : Int64) (tw : Int32) (f : Nat → Int32) : MI l yX7_isLocked wsX7_isLocked ({ frames := 1, cells := 0, slots := 0, locals := 20 } : Room) D (tysK cI cJ cZ cO) [.ref h0] [(h0, .inr (7, [.ref h1, .long me, .ref h2, .ref h3, .ref h4, .ref h5, .int tw])), (h1, .inl (cI, 165, .inl f))] (r_X7_isLocked f) [(h0, .inr (7, [.ref h1, .long me, .ref h2, .ref h3, .ref h4, .ref h5, .int 0])), (h1, .inl (cI, 165, .inl f))] := by
  refine MI.of (cc := cX7_isLocked) (maxL := 1) (ret := .boolean) (by decide) rfl (Nat.le_of_ble_eq_true rfl) (by simp only [r_X7_isLocked, r_X7_hasLock]; split <;> rfl) ?_
  intro p e s m args below meth c A Q ls H locs B hS hP hD hl hret
  obtain ⟨hx, hb, hml, hown, hts, hK, hN, hA, hlocks⟩ := B
  have hi7 : ∀ w ∈ u_ws RX7 TX7 7, w ∈ wsX7_isLocked := by decide +kernel
  have hl : lv_has ls 1 [(0, .ref h0)] := hl
  refine lv_aload_n hx hb dX7_isLocked_0 rfl (lv_at hl 0 rfl) ?_
  refine lv_iconst (v := 0) hx hb dX7_isLocked_1 (by decide) ?_
  refine va_put (D := D) (ci := 7) (v := .int 0) (ty := .int) (C := RX7) (T := TX7) (N := 7) hx hb hts hi7 tyX7 tyX7_ok nmX7 hown hK hP hD hS 0 rfl rfl 6 (by decide) (hts (.fieldLink RX7 30 "GridInverterModel" "thrown" "I") (by decide +kernel)) (fun _ h9 => h9) rfl (by decide +kernel) rfl rfl (Nat.le_of_ble_eq_true rfl) dX7_isLocked_2 (fun H locs hP hD hS => ?_)
  have hP : va_P D vwCl [(h0, .inr (7, [.ref h1, .long me, .ref h2, .ref h3, .ref h4, .ref h5, .int 0])), (h1, .inl (cI, 165, .inl f))] H := hP
  have hD : va_D A [(h0, .inr (7, [.ref h1, .long me, .ref h2, .ref h3, .ref h4, .ref h5, .int 0])), (h1, .inl (cI, 165, .inl f))] := hD
  refine lv_aload_n hx hb dX7_isLocked_5 rfl (lv_at hl 0 rfl) ?_
  refine call_i (wr := []) (k := 0) (n := 0) (run_V (As := []) (rest := []) ⟨hx, hb, hml, hown, hts⟩ (mX7_hasLock l D cI cJ cZ cO h0 h1 h2 h3 h4 h5 me 0 f H.size) (cwV 0 hts gX7_isLocked_X7_hasLock rfl rfl rfl (by decide +kernel) ⟨Nat.le_of_ble_eq_true rfl, Nat.le_of_ble_eq_true rfl⟩) hK hN hP hD [0, 1] (by decide) rfl 7 0 rfl rfl rfl rfl rfl hl.1 (Nat.le_of_ble_eq_true rfl) dX7_isLocked_6 ⟨Nat.le_of_ble_eq_true rfl, Nat.le_of_ble_eq_true rfl⟩) hP hD hS hA [0, 1] [] rfl rfl (by decide) (by decide) (Nat.le_of_ble_eq_true rfl) (Nat.le_of_ble_eq_true rfl) (fun H locs hP hD hS => ?_)
  have hP : va_P D vwCl [(h0, .inr (7, [.ref h1, .long me, .ref h2, .ref h3, .ref h4, .ref h5, .int 0])), (h1, .inl (cI, 165, .inl f))] H := hP
  have hD : va_D A [(h0, .inr (7, [.ref h1, .long me, .ref h2, .ref h3, .ref h4, .ref h5, .int 0])), (h1, .inl (cI, 165, .inl f))] := hD
  exact hret _ _ _ _ _ _ _ _ (by first | with_reducible rfl | (simp only [r_X7_isLocked]; done) | rfl) (by first | with_reducible rfl | (simp only [r_X7_isLocked]; done) | rfl) hP hD hS (Nat.le_of_ble_eq_true rfl) (Nat.le_of_ble_eq_true rfl) dX7_isLocked_9

def r_X7_events (f : Nat → Int32) : Int32 := (f 32)
set_option maxHeartbeats 4000000 in
set_option maxRecDepth 100000 in
theorem mX7_events (l : Launch) (D : va_G) (cI cJ cZ cO : ClassId) (h0 : Nat) (h1 : Nat) (h2 : Nat) (h3 : Nat) (h4 : Nat) (h5 : Nat) (me : Int64) (tw : Int32) (f : Nat → Int32) : MI l yX7_events wsX7_events ({ frames := 0, cells := 0, slots := 0, locals := 0 } : Room) D (tysK cI cJ cZ cO) [.ref h0] [(h0, .inr (7, [.ref h1, .long me, .ref h2, .ref h3, .ref h4, .ref h5, .int tw])), (h1, .inl (cI, 165, .inl f))] (r_X7_events f) [(h0, .inr (7, [.ref h1, .long me, .ref h2, .ref h3, .ref h4, .ref h5, .int 0])), (h1, .inl (cI, 165, .inl f))] := by
  refine MI.of (cc := cX7_events) (maxL := 1) (ret := .int) (by decide) rfl (Nat.le_of_ble_eq_true rfl) rfl ?_
  intro p e s m args below meth c A Q ls H locs B hS hP hD hl hret
  obtain ⟨hx, hb, hml, hown, hts, hK, hN, hA, hlocks⟩ := B
  have hi7 : ∀ w ∈ u_ws RX7 TX7 7, w ∈ wsX7_events := by decide +kernel
  have hl : lv_has ls 1 [(0, .ref h0)] := hl
  refine lv_aload_n hx hb dX7_events_0 rfl (lv_at hl 0 rfl) ?_
  refine lv_iconst (v := 0) hx hb dX7_events_1 (by decide) ?_
  refine va_put (D := D) (ci := 7) (v := .int 0) (ty := .int) (C := RX7) (T := TX7) (N := 7) hx hb hts hi7 tyX7 tyX7_ok nmX7 hown hK hP hD hS 0 rfl rfl 6 (by decide) (hts (.fieldLink RX7 30 "GridInverterModel" "thrown" "I") (by decide +kernel)) (fun _ h9 => h9) rfl (by decide +kernel) rfl rfl (Nat.le_of_ble_eq_true rfl) dX7_events_2 (fun H locs hP hD hS => ?_)
  have hP : va_P D vwCl [(h0, .inr (7, [.ref h1, .long me, .ref h2, .ref h3, .ref h4, .ref h5, .int 0])), (h1, .inl (cI, 165, .inl f))] H := hP
  have hD : va_D A [(h0, .inr (7, [.ref h1, .long me, .ref h2, .ref h3, .ref h4, .ref h5, .int 0])), (h1, .inl (cI, 165, .inl f))] := hD
  refine lv_aload_n hx hb dX7_events_5 rfl (lv_at hl 0 rfl) ?_
  refine va_get (D := D) (ci := 7) (v := .ref h1) (C := RX7) (T := TX7) (N := 7) hx hb hts hi7 hown hK hP 0 rfl rfl 0 (by decide) (hts (.fieldLink RX7 7 "GridInverterModel" "at" "[I") (by decide +kernel)) (fun _ h9 => h9) rfl dX7_events_6 ?_
  refine lv_bipush (v := 32) hx hb dX7_events_9 (by decide) ?_
  refine r_ald hx hb hK hP 1 0 rfl rfl 32 rfl (Nat.le_of_ble_eq_true rfl) (Nat.le_of_ble_eq_true rfl) (v := (f 32)) rfl dX7_events_11 ?_
  exact hret _ _ _ _ _ _ _ _ (by first | with_reducible rfl | (simp only [r_X7_events]; done) | rfl) (by first | with_reducible rfl | (simp only [r_X7_events]; done) | rfl) hP hD hS (Nat.le_of_ble_eq_true rfl) (Nat.le_of_ble_eq_true rfl) dX7_events_12

set_option maxHeartbeats 4000000 in
set_option maxRecDepth 100000 in
theorem mX7_energy (l : Launch) (D : va_G) (cI cJ cZ cO : ClassId) (h0 : Nat) (h1 : Nat) (h2 : Nat) (h3 : Nat) (h4 : Nat) (h5 : Nat) (me : Int64) (tw : Int32) : ML l yX7_energy wsX7_energy ({ frames := 0, cells := 0, slots := 0, locals := 0 } : Room) D (tysK cI cJ cZ cO) [.ref h0] [(h0, .inr (7, [.ref h1, .long me, .ref h2, .ref h3, .ref h4, .ref h5, .int tw]))] me [(h0, .inr (7, [.ref h1, .long me, .ref h2, .ref h3, .ref h4, .ref h5, .int 0]))] := by
  refine ML.of (cc := cX7_energy) (maxL := 1) (by decide) rfl (Nat.le_of_ble_eq_true rfl) ?_
  intro p e s m args below meth c A Q ls H locs B hS hP hD hl hret
  obtain ⟨hx, hb, hml, hown, hts, hK, hN, hA, hlocks⟩ := B
  have hi7 : ∀ w ∈ u_ws RX7 TX7 7, w ∈ wsX7_energy := by decide +kernel
  have hl : lv_has ls 1 [(0, .ref h0)] := hl
  refine lv_aload_n hx hb dX7_energy_0 rfl (lv_at hl 0 rfl) ?_
  refine lv_iconst (v := 0) hx hb dX7_energy_1 (by decide) ?_
  refine va_put (D := D) (ci := 7) (v := .int 0) (ty := .int) (C := RX7) (T := TX7) (N := 7) hx hb hts hi7 tyX7 tyX7_ok nmX7 hown hK hP hD hS 0 rfl rfl 6 (by decide) (hts (.fieldLink RX7 30 "GridInverterModel" "thrown" "I") (by decide +kernel)) (fun _ h9 => h9) rfl (by decide +kernel) rfl rfl (Nat.le_of_ble_eq_true rfl) dX7_energy_2 (fun H locs hP hD hS => ?_)
  have hP : va_P D vwCl [(h0, .inr (7, [.ref h1, .long me, .ref h2, .ref h3, .ref h4, .ref h5, .int 0]))] H := hP
  have hD : va_D A [(h0, .inr (7, [.ref h1, .long me, .ref h2, .ref h3, .ref h4, .ref h5, .int 0]))] := hD
  refine lv_aload_n hx hb dX7_energy_5 rfl (lv_at hl 0 rfl) ?_
  refine va_get (D := D) (ci := 7) (v := .long me) (C := RX7) (T := TX7) (N := 7) hx hb hts hi7 hown hK hP 0 rfl rfl 1 (by decide) (hts (.fieldLink RX7 91 "GridInverterModel" "energy" "J") (by decide +kernel)) (fun _ h9 => h9) rfl dX7_energy_6 ?_
  exact hret _ _ _ _ _ _ _ _ (by first | with_reducible rfl | (simp only []; done) | rfl) (by first | with_reducible rfl | (simp only []; done) | rfl) hP hD hS (Nat.le_of_ble_eq_true rfl) (Nat.le_of_ble_eq_true rfl) dX7_energy_9

def r_X7_measure (f : Nat → Int32) (p0 : Int32) : Int32 := (if (if (r_X7_in p0 0 9) = 0 then 1 else 0 : Int32) = 0 then (f p0.toNatClampNeg) else 0 : Int32)
def v_h0_thrown_X7_measure (p0 : Int32) : Int32 := (if (r_X7_in p0 0 9) = 0 then 1 else 0 : Int32)
set_option maxHeartbeats 4000000 in
set_option maxRecDepth 100000 in
theorem mX7_measure (l : Launch) (D : va_G) (cI cJ cZ cO : ClassId) (h0 : Nat) (h1 : Nat) (h2 : Nat) (h3 : Nat) (h4 : Nat) (h5 : Nat) (me : Int64) (tw : Int32) (f : Nat → Int32) (p0 : Int32) : MI l yX7_measure wsX7_measure ({ frames := 1, cells := 0, slots := 0, locals := 22 } : Room) D (tysK cI cJ cZ cO) [.ref h0, .int p0] [(h0, .inr (7, [.ref h1, .long me, .ref h2, .ref h3, .ref h4, .ref h5, .int tw])), (h1, .inl (cI, 165, .inl f))] (r_X7_measure f p0) [(h0, .inr (7, [.ref h1, .long me, .ref h2, .ref h3, .ref h4, .ref h5, .int (v_h0_thrown_X7_measure p0)])), (h1, .inl (cI, 165, .inl f))] := by
  refine MI.of (cc := cX7_measure) (maxL := 2) (ret := .int) (by decide) rfl (Nat.le_of_ble_eq_true rfl) rfl ?_
  intro p e s m args below meth c A Q ls H locs B hS hP hD hl hret
  obtain ⟨hx, hb, hml, hown, hts, hK, hN, hA, hlocks⟩ := B
  have hi7 : ∀ w ∈ u_ws RX7 TX7 7, w ∈ wsX7_measure := by decide +kernel
  have hl : lv_has ls 2 [(0, .ref h0), (1, .int p0)] := hl
  refine lv_aload_n hx hb dX7_measure_0 rfl (lv_at hl 0 rfl) ?_
  refine lv_iload_n hx hb dX7_measure_1 rfl (lv_at hl 1 rfl) ?_
  refine lv_iconst (v := 0) hx hb dX7_measure_2 (by decide) ?_
  refine lv_bipush (v := 9) hx hb dX7_measure_3 (by decide) ?_
  refine call_i (wr := [(h0, .inr (7, [.ref h1, .long me, .ref h2, .ref h3, .ref h4, .ref h5, .int tw])), (h1, .inl (cI, 165, .inl f))]) (k := 0) (n := 0) (run_S (As := [.int p0, .int 0, .int 9]) (rest := [.ref h0]) ⟨hx, hb, hml, hown, hts⟩ (mX7_in l D cI cJ cZ cO p0 0 9 H.size) (va_cwS 3 hts gX7_measure_X7_in rfl rfl rfl (by decide +kernel) ⟨Nat.le_of_ble_eq_true rfl, Nat.le_of_ble_eq_true rfl⟩) hK hN hP hD [] (by decide) rfl rfl rfl hl.1 (Nat.le_of_ble_eq_true rfl) dX7_measure_5 ⟨Nat.le_of_ble_eq_true rfl, Nat.le_of_ble_eq_true rfl⟩) hP hD hS hA [] [0, 1] rfl rfl (by decide) (by decide) (Nat.le_of_ble_eq_true rfl) (Nat.le_of_ble_eq_true rfl) (fun H locs hP hD hS => ?_)
  have hP : va_P D vwCl [(h0, .inr (7, [.ref h1, .long me, .ref h2, .ref h3, .ref h4, .ref h5, .int tw])), (h1, .inl (cI, 165, .inl f))] H := hP
  have hD : va_D A [(h0, .inr (7, [.ref h1, .long me, .ref h2, .ref h3, .ref h4, .ref h5, .int tw])), (h1, .inl (cI, 165, .inl f))] := hD
  have K16 : ∀ (y3 : Int32) (H : Heap) (locs : List Loc) (ls : Array Slot), y3 = (if (r_X7_in p0 0 9) = 0 then 1 else 0 : Int32) → va_P D vwCl [(h0, .inr (7, [.ref h1, .long me, .ref h2, .ref h3, .ref h4, .ref h5, .int tw])), (h1, .inl (cI, 165, .inl f))] H → va_D A [(h0, .inr (7, [.ref h1, .long me, .ref h2, .ref h3, .ref h4, .ref h5, .int tw])), (h1, .inl (cI, 165, .inl f))] → va_S A s.heap H locs → lv_has ls 2 [(0, .ref h0), (1, .int p0)] → W p l e ({ frames := 1, cells := 0, slots := 0, locals := 22 } : Room) s m args below meth c H locs 0 0 Q (F0 m 16 ls [.int y3, .ref h0]) := by
    intro y3 H locs ls ey3 hP hD hS hl
    refine va_put (D := D) (ci := 7) (v := .int y3) (ty := .int) (C := RX7) (T := TX7) (N := 7) hx hb hts hi7 tyX7 tyX7_ok nmX7 hown hK hP hD hS 0 rfl rfl 6 (by decide) (hts (.fieldLink RX7 30 "GridInverterModel" "thrown" "I") (by decide +kernel)) (fun _ h9 => h9) rfl (by decide +kernel) rfl rfl (Nat.le_of_ble_eq_true rfl) dX7_measure_16 (fun H locs hP hD hS => ?_)
    have hP : va_P D vwCl [(h0, .inr (7, [.ref h1, .long me, .ref h2, .ref h3, .ref h4, .ref h5, .int y3])), (h1, .inl (cI, 165, .inl f))] H := hP
    have hD : va_D A [(h0, .inr (7, [.ref h1, .long me, .ref h2, .ref h3, .ref h4, .ref h5, .int y3])), (h1, .inl (cI, 165, .inl f))] := hD
    refine lv_aload_n hx hb dX7_measure_19 rfl (lv_at hl 0 rfl) ?_
    refine va_get (D := D) (ci := 7) (v := .int y3) (C := RX7) (T := TX7) (N := 7) hx hb hts hi7 hown hK hP 0 rfl rfl 6 (by decide) (hts (.fieldLink RX7 30 "GridInverterModel" "thrown" "I") (by decide +kernel)) (fun _ h9 => h9) rfl dX7_measure_20 ?_
    have K36 : ∀ (y6 : Int32) (H : Heap) (locs : List Loc) (ls : Array Slot), y6 = (if (if (r_X7_in p0 0 9) = 0 then 1 else 0 : Int32) = 0 then (f p0.toNatClampNeg) else 0 : Int32) → va_P D vwCl [(h0, .inr (7, [.ref h1, .long me, .ref h2, .ref h3, .ref h4, .ref h5, .int y3])), (h1, .inl (cI, 165, .inl f))] H → va_D A [(h0, .inr (7, [.ref h1, .long me, .ref h2, .ref h3, .ref h4, .ref h5, .int y3])), (h1, .inl (cI, 165, .inl f))] → va_S A s.heap H locs → lv_has ls 2 [(0, .ref h0), (1, .int p0)] → W p l e ({ frames := 1, cells := 0, slots := 0, locals := 22 } : Room) s m args below meth c H locs 0 0 Q (F0 m 36 ls [.int y6]) := by
      intro y6 H locs ls ey6 hP hD hS hl
      exact hret _ _ _ _ _ _ _ _ (by subst ey3; subst ey6; first | with_reducible rfl | (simp only [r_X7_measure, v_h0_thrown_X7_measure]; done) | rfl) (by subst ey3; subst ey6; first | with_reducible rfl | (simp only [r_X7_measure, v_h0_thrown_X7_measure]; done) | rfl) hP hD hS (Nat.le_of_ble_eq_true rfl) (Nat.le_of_ble_eq_true rfl) dX7_measure_36
    refine lv_if_eq (tgt := 30) hx hb dX7_measure_23 (by decide) (fun c5 => ?_) (fun c5 => ?_)
    · refine lv_aload_n hx hb dX7_measure_30 rfl (lv_at hl 0 rfl) ?_
      refine va_get (D := D) (ci := 7) (v := .ref h1) (C := RX7) (T := TX7) (N := 7) hx hb hts hi7 hown hK hP 0 rfl rfl 0 (by decide) (hts (.fieldLink RX7 7 "GridInverterModel" "at" "[I") (by decide +kernel)) (fun _ h9 => h9) rfl dX7_measure_31 ?_
      refine lv_iload_n hx hb dX7_measure_34 rfl (lv_at hl 1 rfl) ?_
      refine r_ald hx hb hK hP 1 0 rfl rfl p0.toNatClampNeg (in_ix (by subst ey3; exact c5)).1 (Nat.lt_of_lt_of_le (in_ix (x := p0) (n := 9) (by subst ey3; exact c5)).2 (by decide)) (Nat.le_of_ble_eq_true rfl) (v := (f p0.toNatClampNeg)) rfl dX7_measure_35 ?_
      exact K36 _ _ _ _ (by subst ey3; first | with_reducible rfl | (simp only [if_pos c5]; done) | rfl) (hP.sub [0, 1] rfl) (hD.sub [0, 1] (by decide) rfl) hS (lv_sub hl [0, 1] rfl)
    · refine lv_iconst (v := 0) hx hb dX7_measure_26 (by decide) ?_
      refine lv_goto (tgt := 36) hx hb dX7_measure_27 (by decide) ?_
      exact K36 _ _ _ _ (by subst ey3; first | with_reducible rfl | (simp only [if_neg c5]; done) | rfl) (hP.sub [0, 1] rfl) (hD.sub [0, 1] (by decide) rfl) hS (lv_sub hl [0, 1] rfl)
  refine lv_if_eq (tgt := 15) hx hb dX7_measure_8 (by decide) (fun c2 => ?_) (fun c2 => ?_)
  · refine lv_iconst (v := 1) hx hb dX7_measure_15 (by decide) ?_
    exact K16 _ _ _ _ (by first | with_reducible rfl | (simp only [if_pos c2]; done) | rfl) (hP.sub [0, 1] rfl) (hD.sub [0, 1] (by decide) rfl) hS (lv_sub hl [0, 1] rfl)
  · refine lv_iconst (v := 0) hx hb dX7_measure_11 (by decide) ?_
    refine lv_goto (tgt := 16) hx hb dX7_measure_12 (by decide) ?_
    exact K16 _ _ _ _ (by first | with_reducible rfl | (simp only [if_neg c2]; done) | rfl) (hP.sub [0, 1] rfl) (hD.sub [0, 1] (by decide) rfl) hS (lv_sub hl [0, 1] rfl)

def r_X7_addRule (f : Nat → Int32) (p0 : Int32) (p1 : Int32) (p2 : Int32) : Int32 := (if (if (r_X7_in p0 0 4) = 0 then 1 else (if (r_X7_in p1 0 70000) = 0 then 1 else (if (r_X7_in p2 1 10000) = 0 then 1 else (if (f 30) = 8 then 2 else 0 : Int32) : Int32) : Int32) : Int32) = 0 then (f 30) else 0 : Int32)
def v_h0_thrown_X7_addRule (f : Nat → Int32) (p0 : Int32) (p1 : Int32) (p2 : Int32) : Int32 := (if (r_X7_in p0 0 4) = 0 then 1 else (if (r_X7_in p1 0 70000) = 0 then 1 else (if (r_X7_in p2 1 10000) = 0 then 1 else (if (f 30) = 8 then 2 else 0 : Int32) : Int32) : Int32) : Int32)
def a_h1_X7_addRule (f : Nat → Int32) (p0 : Int32) (p1 : Int32) (p2 : Int32) (z : Nat) : Nat → Int32 := (if (if (r_X7_in p0 0 4) = 0 then 1 else (if (r_X7_in p1 0 70000) = 0 then 1 else (if (r_X7_in p2 1 10000) = 0 then 1 else (if (f 30) = 8 then 2 else 0 : Int32) : Int32) : Int32) : Int32) = 0 then (upd (upd (upd (upd (upd f (53 + z) p0) (61 + z) p1) (69 + z) p2) (77 + z) 0) 30 ((f 30) + 1)) else f : Nat → Int32)
set_option maxHeartbeats 4000000 in
set_option maxRecDepth 100000 in
theorem mX7_addRule (l : Launch) (D : va_G) (cI cJ cZ cO : ClassId) (h0 : Nat) (h1 : Nat) (h2 : Nat) (h3 : Nat) (h4 : Nat) (h5 : Nat) (me : Int64) (tw : Int32) (f : Nat → Int32) (p0 : Int32) (p1 : Int32) (p2 : Int32) (z : Nat) (hz : f 30 = nI z) (hz8 : z ≤ 8) : MI l yX7_addRule wsX7_addRule ({ frames := 1, cells := 0, slots := 0, locals := 22 } : Room) D (tysK cI cJ cZ cO) [.ref h0, .int p0, .int p1, .int p2] [(h0, .inr (7, [.ref h1, .long me, .ref h2, .ref h3, .ref h4, .ref h5, .int tw])), (h1, .inl (cI, 165, .inl f))] (r_X7_addRule f p0 p1 p2) [(h0, .inr (7, [.ref h1, .long me, .ref h2, .ref h3, .ref h4, .ref h5, .int (v_h0_thrown_X7_addRule f p0 p1 p2)])), (h1, .inl (cI, 165, .inl (a_h1_X7_addRule f p0 p1 p2 z)))] := by
  refine MI.of (cc := cX7_addRule) (maxL := 5) (ret := .int) (by decide) rfl (Nat.le_of_ble_eq_true rfl) rfl ?_
  intro p e s m args below meth c A Q ls H locs B hS hP hD hl hret
  obtain ⟨hx, hb, hml, hown, hts, hK, hN, hA, hlocks⟩ := B
  have hi7 : ∀ w ∈ u_ws RX7 TX7 7, w ∈ wsX7_addRule := by decide +kernel
  have hl : lv_has ls 5 [(0, .ref h0), (1, .int p0), (2, .int p1), (3, .int p2)] := hl
  refine lv_aload_n hx hb dX7_addRule_0 rfl (lv_at hl 0 rfl) ?_
  refine lv_iload_n hx hb dX7_addRule_1 rfl (lv_at hl 1 rfl) ?_
  refine lv_iconst (v := 0) hx hb dX7_addRule_2 (by decide) ?_
  refine lv_iconst (v := 4) hx hb dX7_addRule_3 (by decide) ?_
  refine call_i (wr := [(h0, .inr (7, [.ref h1, .long me, .ref h2, .ref h3, .ref h4, .ref h5, .int tw])), (h1, .inl (cI, 165, .inl f))]) (k := 0) (n := 0) (run_S (As := [.int p0, .int 0, .int 4]) (rest := [.ref h0]) ⟨hx, hb, hml, hown, hts⟩ (mX7_in l D cI cJ cZ cO p0 0 4 H.size) (va_cwS 3 hts gX7_addRule_X7_in rfl rfl rfl (by decide +kernel) ⟨Nat.le_of_ble_eq_true rfl, Nat.le_of_ble_eq_true rfl⟩) hK hN hP hD [] (by decide) rfl rfl rfl hl.1 (Nat.le_of_ble_eq_true rfl) dX7_addRule_4 ⟨Nat.le_of_ble_eq_true rfl, Nat.le_of_ble_eq_true rfl⟩) hP hD hS hA [] [0, 1] rfl rfl (by decide) (by decide) (Nat.le_of_ble_eq_true rfl) (Nat.le_of_ble_eq_true rfl) (fun H locs hP hD hS => ?_)
  have hP : va_P D vwCl [(h0, .inr (7, [.ref h1, .long me, .ref h2, .ref h3, .ref h4, .ref h5, .int tw])), (h1, .inl (cI, 165, .inl f))] H := hP
  have hD : va_D A [(h0, .inr (7, [.ref h1, .long me, .ref h2, .ref h3, .ref h4, .ref h5, .int tw])), (h1, .inl (cI, 165, .inl f))] := hD
  have K52 : ∀ (y3 : Int32) (H : Heap) (locs : List Loc) (ls : Array Slot), y3 = (if (r_X7_in p0 0 4) = 0 then 1 else (if (r_X7_in p1 0 70000) = 0 then 1 else (if (r_X7_in p2 1 10000) = 0 then 1 else (if (f 30) = 8 then 2 else 0 : Int32) : Int32) : Int32) : Int32) → va_P D vwCl [(h0, .inr (7, [.ref h1, .long me, .ref h2, .ref h3, .ref h4, .ref h5, .int tw])), (h1, .inl (cI, 165, .inl f))] H → va_D A [(h0, .inr (7, [.ref h1, .long me, .ref h2, .ref h3, .ref h4, .ref h5, .int tw])), (h1, .inl (cI, 165, .inl f))] → va_S A s.heap H locs → lv_has ls 5 [(0, .ref h0), (1, .int p0), (2, .int p1), (3, .int p2)] → W p l e ({ frames := 1, cells := 0, slots := 0, locals := 22 } : Room) s m args below meth c H locs 0 0 Q (F0 m 52 ls [.int y3, .ref h0]) := by
    intro y3 H locs ls ey3 hP hD hS hl
    refine va_put (D := D) (ci := 7) (v := .int y3) (ty := .int) (C := RX7) (T := TX7) (N := 7) hx hb hts hi7 tyX7 tyX7_ok nmX7 hown hK hP hD hS 0 rfl rfl 6 (by decide) (hts (.fieldLink RX7 30 "GridInverterModel" "thrown" "I") (by decide +kernel)) (fun _ h9 => h9) rfl (by decide +kernel) rfl rfl (Nat.le_of_ble_eq_true rfl) dX7_addRule_52 (fun H locs hP hD hS => ?_)
    have hP : va_P D vwCl [(h0, .inr (7, [.ref h1, .long me, .ref h2, .ref h3, .ref h4, .ref h5, .int y3])), (h1, .inl (cI, 165, .inl f))] H := hP
    have hD : va_D A [(h0, .inr (7, [.ref h1, .long me, .ref h2, .ref h3, .ref h4, .ref h5, .int y3])), (h1, .inl (cI, 165, .inl f))] := hD
    refine lv_aload_n hx hb dX7_addRule_55 rfl (lv_at hl 0 rfl) ?_
    refine va_get (D := D) (ci := 7) (v := .int y3) (C := RX7) (T := TX7) (N := 7) hx hb hts hi7 hown hK hP 0 rfl rfl 6 (by decide) (hts (.fieldLink RX7 30 "GridInverterModel" "thrown" "I") (by decide +kernel)) (fun _ h9 => h9) rfl dX7_addRule_56 ?_
    refine lv_if_eq (tgt := 64) hx hb dX7_addRule_59 (by decide) (fun c5 => ?_) (fun c5 => ?_)
    · refine lv_aload_n hx hb dX7_addRule_64 rfl (lv_at hl 0 rfl) ?_
      refine va_get (D := D) (ci := 7) (v := .ref h1) (C := RX7) (T := TX7) (N := 7) hx hb hts hi7 hown hK hP 0 rfl rfl 0 (by decide) (hts (.fieldLink RX7 7 "GridInverterModel" "at" "[I") (by decide +kernel)) (fun _ h9 => h9) rfl dX7_addRule_65 ?_
      refine lv_bipush (v := 30) hx hb dX7_addRule_68 (by decide) ?_
      refine r_ald hx hb hK hP 1 0 rfl rfl 30 rfl (Nat.le_of_ble_eq_true rfl) (Nat.le_of_ble_eq_true rfl) (v := (f 30)) rfl dX7_addRule_70 ?_
      refine lv_istore (lv' := [(4, .int (f 30)), (0, .ref h0), (1, .int p0), (2, .int p1), (3, .int p2)]) hx hb dX7_addRule_71 hl (by decide) rfl (fun ls hl => ?_)
      refine lv_aload_n hx hb dX7_addRule_73 rfl (lv_at hl 1 rfl) ?_
      refine va_get (D := D) (ci := 7) (v := .ref h1) (C := RX7) (T := TX7) (N := 7) hx hb hts hi7 hown hK hP 0 rfl rfl 0 (by decide) (hts (.fieldLink RX7 7 "GridInverterModel" "at" "[I") (by decide +kernel)) (fun _ h9 => h9) rfl dX7_addRule_74 ?_
      refine lv_bipush (v := 53) hx hb dX7_addRule_77 (by decide) ?_
      refine lv_iload hx hb dX7_addRule_79 (lv_at hl 0 rfl) ?_
      refine lv_iadd hx hb dX7_addRule_81 ?_
      refine lv_iload_n hx hb dX7_addRule_82 rfl (lv_at hl 2 rfl) ?_
      refine r_ast hx hb hK hP hD hS 1 0 rfl rfl (53 + z) (ix_add 53 hz) (by omega) (Nat.le_of_ble_eq_true rfl) dX7_addRule_83 (fun H locs hP hD hS => ?_)
      have hP : va_P D vwCl [(h0, .inr (7, [.ref h1, .long me, .ref h2, .ref h3, .ref h4, .ref h5, .int y3])), (h1, .inl (cI, 165, .inl (upd f (53 + z) p0)))] H := hP
      have hD : va_D A [(h0, .inr (7, [.ref h1, .long me, .ref h2, .ref h3, .ref h4, .ref h5, .int y3])), (h1, .inl (cI, 165, .inl (upd f (53 + z) p0)))] := hD
      refine lv_aload_n hx hb dX7_addRule_84 rfl (lv_at hl 1 rfl) ?_
      refine va_get (D := D) (ci := 7) (v := .ref h1) (C := RX7) (T := TX7) (N := 7) hx hb hts hi7 hown hK hP 0 rfl rfl 0 (by decide) (hts (.fieldLink RX7 7 "GridInverterModel" "at" "[I") (by decide +kernel)) (fun _ h9 => h9) rfl dX7_addRule_85 ?_
      refine lv_bipush (v := 61) hx hb dX7_addRule_88 (by decide) ?_
      refine lv_iload hx hb dX7_addRule_90 (lv_at hl 0 rfl) ?_
      refine lv_iadd hx hb dX7_addRule_92 ?_
      refine lv_iload_n hx hb dX7_addRule_93 rfl (lv_at hl 3 rfl) ?_
      refine r_ast hx hb hK hP hD hS 1 0 rfl rfl (61 + z) (ix_add 61 hz) (by omega) (Nat.le_of_ble_eq_true rfl) dX7_addRule_94 (fun H locs hP hD hS => ?_)
      obtain ⟨x6, ex6⟩ : ∃ zz_, zz_ = (upd (upd f (53 + z) p0) (61 + z) p1) := ⟨_, rfl⟩
      have hP : va_P D vwCl [(h0, .inr (7, [.ref h1, .long me, .ref h2, .ref h3, .ref h4, .ref h5, .int y3])), (h1, .inl (cI, 165, .inl x6))] H := by rw [ex6]; exact hP
      have hD : va_D A [(h0, .inr (7, [.ref h1, .long me, .ref h2, .ref h3, .ref h4, .ref h5, .int y3])), (h1, .inl (cI, 165, .inl x6))] := by rw [ex6]; exact hD
      refine lv_aload_n hx hb dX7_addRule_95 rfl (lv_at hl 1 rfl) ?_
      refine va_get (D := D) (ci := 7) (v := .ref h1) (C := RX7) (T := TX7) (N := 7) hx hb hts hi7 hown hK hP 0 rfl rfl 0 (by decide) (hts (.fieldLink RX7 7 "GridInverterModel" "at" "[I") (by decide +kernel)) (fun _ h9 => h9) rfl dX7_addRule_96 ?_
      refine lv_bipush (v := 69) hx hb dX7_addRule_99 (by decide) ?_
      refine lv_iload hx hb dX7_addRule_101 (lv_at hl 0 rfl) ?_
      refine lv_iadd hx hb dX7_addRule_103 ?_
      refine lv_iload_n hx hb dX7_addRule_104 rfl (lv_at hl 4 rfl) ?_
      refine r_ast hx hb hK hP hD hS 1 0 rfl rfl (69 + z) (ix_add 69 hz) (by omega) (Nat.le_of_ble_eq_true rfl) dX7_addRule_105 (fun H locs hP hD hS => ?_)
      have hP : va_P D vwCl [(h0, .inr (7, [.ref h1, .long me, .ref h2, .ref h3, .ref h4, .ref h5, .int y3])), (h1, .inl (cI, 165, .inl (upd x6 (69 + z) p2)))] H := hP
      have hD : va_D A [(h0, .inr (7, [.ref h1, .long me, .ref h2, .ref h3, .ref h4, .ref h5, .int y3])), (h1, .inl (cI, 165, .inl (upd x6 (69 + z) p2)))] := hD
      refine lv_aload_n hx hb dX7_addRule_106 rfl (lv_at hl 1 rfl) ?_
      refine va_get (D := D) (ci := 7) (v := .ref h1) (C := RX7) (T := TX7) (N := 7) hx hb hts hi7 hown hK hP 0 rfl rfl 0 (by decide) (hts (.fieldLink RX7 7 "GridInverterModel" "at" "[I") (by decide +kernel)) (fun _ h9 => h9) rfl dX7_addRule_107 ?_
      refine lv_bipush (v := 77) hx hb dX7_addRule_110 (by decide) ?_
      refine lv_iload hx hb dX7_addRule_112 (lv_at hl 0 rfl) ?_
      refine lv_iadd hx hb dX7_addRule_114 ?_
      refine lv_iconst (v := 0) hx hb dX7_addRule_115 (by decide) ?_
      refine r_ast hx hb hK hP hD hS 1 0 rfl rfl (77 + z) (ix_add 77 hz) (by omega) (Nat.le_of_ble_eq_true rfl) dX7_addRule_116 (fun H locs hP hD hS => ?_)
      obtain ⟨x7, ex7⟩ : ∃ zz_, zz_ = (upd (upd x6 (69 + z) p2) (77 + z) 0) := ⟨_, rfl⟩
      have hP : va_P D vwCl [(h0, .inr (7, [.ref h1, .long me, .ref h2, .ref h3, .ref h4, .ref h5, .int y3])), (h1, .inl (cI, 165, .inl x7))] H := by rw [ex7]; exact hP
      have hD : va_D A [(h0, .inr (7, [.ref h1, .long me, .ref h2, .ref h3, .ref h4, .ref h5, .int y3])), (h1, .inl (cI, 165, .inl x7))] := by rw [ex7]; exact hD
      refine lv_aload_n hx hb dX7_addRule_117 rfl (lv_at hl 1 rfl) ?_
      refine va_get (D := D) (ci := 7) (v := .ref h1) (C := RX7) (T := TX7) (N := 7) hx hb hts hi7 hown hK hP 0 rfl rfl 0 (by decide) (hts (.fieldLink RX7 7 "GridInverterModel" "at" "[I") (by decide +kernel)) (fun _ h9 => h9) rfl dX7_addRule_118 ?_
      refine lv_bipush (v := 30) hx hb dX7_addRule_121 (by decide) ?_
      refine lv_dup2_11 hx hb dX7_addRule_123 rfl rfl ?_
      refine r_ald hx hb hK hP 1 0 rfl rfl 30 rfl (Nat.le_of_ble_eq_true rfl) (Nat.le_of_ble_eq_true rfl) (v := (f 30)) (by subst ex7; subst ex6; exact (pk_un (by omega)).trans ((pk_un (by omega)).trans ((pk_un (by omega)).trans (pk_un (by omega))))) dX7_addRule_124 ?_
      refine lv_iconst (v := 1) hx hb dX7_addRule_125 (by decide) ?_
      refine lv_iadd hx hb dX7_addRule_126 ?_
      refine r_ast hx hb hK hP hD hS 1 0 rfl rfl 30 rfl (Nat.le_of_ble_eq_true rfl) (Nat.le_of_ble_eq_true rfl) dX7_addRule_127 (fun H locs hP hD hS => ?_)
      have hP : va_P D vwCl [(h0, .inr (7, [.ref h1, .long me, .ref h2, .ref h3, .ref h4, .ref h5, .int y3])), (h1, .inl (cI, 165, .inl (upd x7 30 ((f 30) + 1))))] H := hP
      have hD : va_D A [(h0, .inr (7, [.ref h1, .long me, .ref h2, .ref h3, .ref h4, .ref h5, .int y3])), (h1, .inl (cI, 165, .inl (upd x7 30 ((f 30) + 1))))] := hD
      refine lv_iload hx hb dX7_addRule_128 (lv_at hl 0 rfl) ?_
      exact hret _ _ _ _ _ _ _ _ (by subst ey3; subst ex6; subst ex7; first | with_reducible rfl | (simp only [r_X7_addRule, v_h0_thrown_X7_addRule, a_h1_X7_addRule, if_pos c5]; done) | rfl) (by subst ey3; subst ex6; subst ex7; first | with_reducible rfl | (simp only [r_X7_addRule, v_h0_thrown_X7_addRule, a_h1_X7_addRule, if_pos c5]; done) | rfl) hP hD hS (Nat.le_of_ble_eq_true rfl) (Nat.le_of_ble_eq_true rfl) dX7_addRule_130
    · refine lv_iconst (v := 0) hx hb dX7_addRule_62 (by decide) ?_
      exact hret _ _ _ _ _ _ _ _ (by subst ey3; first | with_reducible rfl | (simp only [r_X7_addRule, v_h0_thrown_X7_addRule, a_h1_X7_addRule, if_neg c5]; done) | rfl) (by subst ey3; first | with_reducible rfl | (simp only [r_X7_addRule, v_h0_thrown_X7_addRule, a_h1_X7_addRule, if_neg c5]; done) | rfl) hP hD hS (Nat.le_of_ble_eq_true rfl) (Nat.le_of_ble_eq_true rfl) dX7_addRule_63
  refine lv_if_eq (tgt := 31) hx hb dX7_addRule_7 (by decide) (fun c2 => ?_) (fun c2 => ?_)
  · refine lv_iconst (v := 1) hx hb dX7_addRule_31 (by decide) ?_
    refine lv_goto (tgt := 52) hx hb dX7_addRule_32 (by decide) ?_
    exact K52 _ _ _ _ (by first | with_reducible rfl | (simp only [if_pos c2]; done) | rfl) (hP.sub [0, 1] rfl) (hD.sub [0, 1] (by decide) rfl) hS (lv_sub hl [0, 1, 2, 3] rfl)
  · refine lv_iload_n hx hb dX7_addRule_10 rfl (lv_at hl 2 rfl) ?_
    refine lv_iconst (v := 0) hx hb dX7_addRule_11 (by decide) ?_
    refine lv_ldc hx hb hown (hts (.constant RX7 56 (70000)) (by decide +kernel)) dX7_addRule_12 ?_
    refine call_i (wr := [(h0, .inr (7, [.ref h1, .long me, .ref h2, .ref h3, .ref h4, .ref h5, .int tw])), (h1, .inl (cI, 165, .inl f))]) (k := 0) (n := 0) (run_S (As := [.int p1, .int 0, .int 70000]) (rest := [.ref h0]) ⟨hx, hb, hml, hown, hts⟩ (mX7_in l D cI cJ cZ cO p1 0 70000 H.size) (va_cwS 3 hts gX7_addRule_X7_in rfl rfl rfl (by decide +kernel) ⟨Nat.le_of_ble_eq_true rfl, Nat.le_of_ble_eq_true rfl⟩) hK hN hP hD [] (by decide) rfl rfl rfl hl.1 (Nat.le_of_ble_eq_true rfl) dX7_addRule_14 ⟨Nat.le_of_ble_eq_true rfl, Nat.le_of_ble_eq_true rfl⟩) hP hD hS hA [] [0, 1] rfl rfl (by decide) (by decide) (Nat.le_of_ble_eq_true rfl) (Nat.le_of_ble_eq_true rfl) (fun H locs hP hD hS => ?_)
    have hP : va_P D vwCl [(h0, .inr (7, [.ref h1, .long me, .ref h2, .ref h3, .ref h4, .ref h5, .int tw])), (h1, .inl (cI, 165, .inl f))] H := hP
    have hD : va_D A [(h0, .inr (7, [.ref h1, .long me, .ref h2, .ref h3, .ref h4, .ref h5, .int tw])), (h1, .inl (cI, 165, .inl f))] := hD
    refine lv_if_eq (tgt := 31) hx hb dX7_addRule_17 (by decide) (fun c9 => ?_) (fun c9 => ?_)
    · refine lv_iconst (v := 1) hx hb dX7_addRule_31 (by decide) ?_
      refine lv_goto (tgt := 52) hx hb dX7_addRule_32 (by decide) ?_
      exact K52 _ _ _ _ (by first | with_reducible rfl | (simp only [if_neg c2, if_pos c9]; done) | rfl) (hP.sub [0, 1] rfl) (hD.sub [0, 1] (by decide) rfl) hS (lv_sub hl [0, 1, 2, 3] rfl)
    · refine lv_iload_n hx hb dX7_addRule_20 rfl (lv_at hl 3 rfl) ?_
      refine lv_iconst (v := 1) hx hb dX7_addRule_21 (by decide) ?_
      refine lv_sipush (v := 10000) hx hb dX7_addRule_22 (by decide) ?_
      refine call_i (wr := [(h0, .inr (7, [.ref h1, .long me, .ref h2, .ref h3, .ref h4, .ref h5, .int tw])), (h1, .inl (cI, 165, .inl f))]) (k := 0) (n := 0) (run_S (As := [.int p2, .int 1, .int 10000]) (rest := [.ref h0]) ⟨hx, hb, hml, hown, hts⟩ (mX7_in l D cI cJ cZ cO p2 1 10000 H.size) (va_cwS 3 hts gX7_addRule_X7_in rfl rfl rfl (by decide +kernel) ⟨Nat.le_of_ble_eq_true rfl, Nat.le_of_ble_eq_true rfl⟩) hK hN hP hD [] (by decide) rfl rfl rfl hl.1 (Nat.le_of_ble_eq_true rfl) dX7_addRule_25 ⟨Nat.le_of_ble_eq_true rfl, Nat.le_of_ble_eq_true rfl⟩) hP hD hS hA [] [0, 1] rfl rfl (by decide) (by decide) (Nat.le_of_ble_eq_true rfl) (Nat.le_of_ble_eq_true rfl) (fun H locs hP hD hS => ?_)
      have hP : va_P D vwCl [(h0, .inr (7, [.ref h1, .long me, .ref h2, .ref h3, .ref h4, .ref h5, .int tw])), (h1, .inl (cI, 165, .inl f))] H := hP
      have hD : va_D A [(h0, .inr (7, [.ref h1, .long me, .ref h2, .ref h3, .ref h4, .ref h5, .int tw])), (h1, .inl (cI, 165, .inl f))] := hD
      refine lv_if_ne (tgt := 35) hx hb dX7_addRule_28 (by decide) (fun c11 => ?_) (fun c11 => ?_)
      · refine lv_aload_n hx hb dX7_addRule_35 rfl (lv_at hl 0 rfl) ?_
        refine va_get (D := D) (ci := 7) (v := .ref h1) (C := RX7) (T := TX7) (N := 7) hx hb hts hi7 hown hK hP 0 rfl rfl 0 (by decide) (hts (.fieldLink RX7 7 "GridInverterModel" "at" "[I") (by decide +kernel)) (fun _ h9 => h9) rfl dX7_addRule_36 ?_
        refine lv_bipush (v := 30) hx hb dX7_addRule_39 (by decide) ?_
        refine r_ald hx hb hK hP 1 0 rfl rfl 30 rfl (Nat.le_of_ble_eq_true rfl) (Nat.le_of_ble_eq_true rfl) (v := (f 30)) rfl dX7_addRule_41 ?_
        refine lv_bipush (v := 8) hx hb dX7_addRule_42 (by decide) ?_
        refine lv_icmp_ne (tgt := 51) hx hb dX7_addRule_44 (by decide) (fun c13 => ?_) (fun c13 => ?_)
        · refine lv_iconst (v := 0) hx hb dX7_addRule_51 (by decide) ?_
          exact K52 _ _ _ _ (by first | with_reducible rfl | (simp only [if_neg c2, if_neg c9, if_neg c11, if_neg c13]; done) | rfl) (hP.sub [0, 1] rfl) (hD.sub [0, 1] (by decide) rfl) hS (lv_sub hl [0, 1, 2, 3] rfl)
        · refine lv_iconst (v := 2) hx hb dX7_addRule_47 (by decide) ?_
          refine lv_goto (tgt := 52) hx hb dX7_addRule_48 (by decide) ?_
          exact K52 _ _ _ _ (by first | with_reducible rfl | (simp only [if_neg c2, if_neg c9, if_neg c11, if_pos c13]; done) | rfl) (hP.sub [0, 1] rfl) (hD.sub [0, 1] (by decide) rfl) hS (lv_sub hl [0, 1, 2, 3] rfl)
      · refine lv_iconst (v := 1) hx hb dX7_addRule_31 (by decide) ?_
        refine lv_goto (tgt := 52) hx hb dX7_addRule_32 (by decide) ?_
        exact K52 _ _ _ _ (by first | with_reducible rfl | (simp only [if_neg c2, if_neg c9, if_pos c11]; done) | rfl) (hP.sub [0, 1] rfl) (hD.sub [0, 1] (by decide) rfl) hS (lv_sub hl [0, 1, 2, 3] rfl)

def r_X7_violations (f : Nat → Int32) (p0 : Int32) : Int32 := (if (if (r_X7_in p0 0 ((f 30) - 1)) = 0 then 1 else 0 : Int32) = 0 then (f (77 + p0.toNatClampNeg)) else 0 : Int32)
def v_h0_thrown_X7_violations (f : Nat → Int32) (p0 : Int32) : Int32 := (if (r_X7_in p0 0 ((f 30) - 1)) = 0 then 1 else 0 : Int32)
set_option maxHeartbeats 4000000 in
set_option maxRecDepth 100000 in
theorem mX7_violations (l : Launch) (D : va_G) (cI cJ cZ cO : ClassId) (h0 : Nat) (h1 : Nat) (h2 : Nat) (h3 : Nat) (h4 : Nat) (h5 : Nat) (me : Int64) (tw : Int32) (f : Nat → Int32) (p0 : Int32) (z : Nat) (hz : f 30 = nI z) (hz8 : z ≤ 8) : MI l yX7_violations wsX7_violations ({ frames := 1, cells := 0, slots := 0, locals := 22 } : Room) D (tysK cI cJ cZ cO) [.ref h0, .int p0] [(h0, .inr (7, [.ref h1, .long me, .ref h2, .ref h3, .ref h4, .ref h5, .int tw])), (h1, .inl (cI, 165, .inl f))] (r_X7_violations f p0) [(h0, .inr (7, [.ref h1, .long me, .ref h2, .ref h3, .ref h4, .ref h5, .int (v_h0_thrown_X7_violations f p0)])), (h1, .inl (cI, 165, .inl f))] := by
  refine MI.of (cc := cX7_violations) (maxL := 2) (ret := .int) (by decide) rfl (Nat.le_of_ble_eq_true rfl) rfl ?_
  intro p e s m args below meth c A Q ls H locs B hS hP hD hl hret
  obtain ⟨hx, hb, hml, hown, hts, hK, hN, hA, hlocks⟩ := B
  have hi7 : ∀ w ∈ u_ws RX7 TX7 7, w ∈ wsX7_violations := by decide +kernel
  have hl : lv_has ls 2 [(0, .ref h0), (1, .int p0)] := hl
  refine lv_aload_n hx hb dX7_violations_0 rfl (lv_at hl 0 rfl) ?_
  refine lv_iload_n hx hb dX7_violations_1 rfl (lv_at hl 1 rfl) ?_
  refine lv_iconst (v := 0) hx hb dX7_violations_2 (by decide) ?_
  refine lv_aload_n hx hb dX7_violations_3 rfl (lv_at hl 0 rfl) ?_
  refine va_get (D := D) (ci := 7) (v := .ref h1) (C := RX7) (T := TX7) (N := 7) hx hb hts hi7 hown hK hP 0 rfl rfl 0 (by decide) (hts (.fieldLink RX7 7 "GridInverterModel" "at" "[I") (by decide +kernel)) (fun _ h9 => h9) rfl dX7_violations_4 ?_
  refine lv_bipush (v := 30) hx hb dX7_violations_7 (by decide) ?_
  refine r_ald hx hb hK hP 1 0 rfl rfl 30 rfl (Nat.le_of_ble_eq_true rfl) (Nat.le_of_ble_eq_true rfl) (v := (f 30)) rfl dX7_violations_9 ?_
  refine lv_iconst (v := 1) hx hb dX7_violations_10 (by decide) ?_
  refine lv_isub hx hb dX7_violations_11 ?_
  refine call_i (wr := [(h0, .inr (7, [.ref h1, .long me, .ref h2, .ref h3, .ref h4, .ref h5, .int tw])), (h1, .inl (cI, 165, .inl f))]) (k := 0) (n := 0) (run_S (As := [.int p0, .int 0, .int ((f 30) - 1)]) (rest := [.ref h0]) ⟨hx, hb, hml, hown, hts⟩ (mX7_in l D cI cJ cZ cO p0 0 ((f 30) - 1) H.size) (va_cwS 3 hts gX7_violations_X7_in rfl rfl rfl (by decide +kernel) ⟨Nat.le_of_ble_eq_true rfl, Nat.le_of_ble_eq_true rfl⟩) hK hN hP hD [] (by decide) rfl rfl rfl hl.1 (Nat.le_of_ble_eq_true rfl) dX7_violations_12 ⟨Nat.le_of_ble_eq_true rfl, Nat.le_of_ble_eq_true rfl⟩) hP hD hS hA [] [0, 1] rfl rfl (by decide) (by decide) (Nat.le_of_ble_eq_true rfl) (Nat.le_of_ble_eq_true rfl) (fun H locs hP hD hS => ?_)
  have hP : va_P D vwCl [(h0, .inr (7, [.ref h1, .long me, .ref h2, .ref h3, .ref h4, .ref h5, .int tw])), (h1, .inl (cI, 165, .inl f))] H := hP
  have hD : va_D A [(h0, .inr (7, [.ref h1, .long me, .ref h2, .ref h3, .ref h4, .ref h5, .int tw])), (h1, .inl (cI, 165, .inl f))] := hD
  refine lv_topi (fun x1 ex1 => ?_)
  have K23 : ∀ (y4 : Int32) (H : Heap) (locs : List Loc) (ls : Array Slot), y4 = (if (r_X7_in p0 0 ((f 30) - 1)) = 0 then 1 else 0 : Int32) → va_P D vwCl [(h0, .inr (7, [.ref h1, .long me, .ref h2, .ref h3, .ref h4, .ref h5, .int tw])), (h1, .inl (cI, 165, .inl f))] H → va_D A [(h0, .inr (7, [.ref h1, .long me, .ref h2, .ref h3, .ref h4, .ref h5, .int tw])), (h1, .inl (cI, 165, .inl f))] → va_S A s.heap H locs → lv_has ls 2 [(0, .ref h0), (1, .int p0)] → W p l e ({ frames := 1, cells := 0, slots := 0, locals := 22 } : Room) s m args below meth c H locs 0 0 Q (F0 m 23 ls [.int y4, .ref h0]) := by
    intro y4 H locs ls ey4 hP hD hS hl
    refine va_put (D := D) (ci := 7) (v := .int y4) (ty := .int) (C := RX7) (T := TX7) (N := 7) hx hb hts hi7 tyX7 tyX7_ok nmX7 hown hK hP hD hS 0 rfl rfl 6 (by decide) (hts (.fieldLink RX7 30 "GridInverterModel" "thrown" "I") (by decide +kernel)) (fun _ h9 => h9) rfl (by decide +kernel) rfl rfl (Nat.le_of_ble_eq_true rfl) dX7_violations_23 (fun H locs hP hD hS => ?_)
    have hP : va_P D vwCl [(h0, .inr (7, [.ref h1, .long me, .ref h2, .ref h3, .ref h4, .ref h5, .int y4])), (h1, .inl (cI, 165, .inl f))] H := hP
    have hD : va_D A [(h0, .inr (7, [.ref h1, .long me, .ref h2, .ref h3, .ref h4, .ref h5, .int y4])), (h1, .inl (cI, 165, .inl f))] := hD
    refine lv_aload_n hx hb dX7_violations_26 rfl (lv_at hl 0 rfl) ?_
    refine va_get (D := D) (ci := 7) (v := .int y4) (C := RX7) (T := TX7) (N := 7) hx hb hts hi7 hown hK hP 0 rfl rfl 6 (by decide) (hts (.fieldLink RX7 30 "GridInverterModel" "thrown" "I") (by decide +kernel)) (fun _ h9 => h9) rfl dX7_violations_27 ?_
    have K46 : ∀ (y7 : Int32) (H : Heap) (locs : List Loc) (ls : Array Slot), y7 = (if (if (r_X7_in p0 0 ((f 30) - 1)) = 0 then 1 else 0 : Int32) = 0 then (f (77 + p0.toNatClampNeg)) else 0 : Int32) → va_P D vwCl [(h0, .inr (7, [.ref h1, .long me, .ref h2, .ref h3, .ref h4, .ref h5, .int y4])), (h1, .inl (cI, 165, .inl f))] H → va_D A [(h0, .inr (7, [.ref h1, .long me, .ref h2, .ref h3, .ref h4, .ref h5, .int y4])), (h1, .inl (cI, 165, .inl f))] → va_S A s.heap H locs → lv_has ls 2 [(0, .ref h0), (1, .int p0)] → W p l e ({ frames := 1, cells := 0, slots := 0, locals := 22 } : Room) s m args below meth c H locs 0 0 Q (F0 m 46 ls [.int y7]) := by
      intro y7 H locs ls ey7 hP hD hS hl
      exact hret _ _ _ _ _ _ _ _ (by subst ex1; subst ey4; subst ey7; first | with_reducible rfl | (simp only [r_X7_violations, v_h0_thrown_X7_violations]; done) | rfl) (by subst ex1; subst ey4; subst ey7; first | with_reducible rfl | (simp only [r_X7_violations, v_h0_thrown_X7_violations]; done) | rfl) hP hD hS (Nat.le_of_ble_eq_true rfl) (Nat.le_of_ble_eq_true rfl) dX7_violations_46
    refine lv_if_eq (tgt := 37) hx hb dX7_violations_30 (by decide) (fun c6 => ?_) (fun c6 => ?_)
    · refine lv_aload_n hx hb dX7_violations_37 rfl (lv_at hl 0 rfl) ?_
      refine va_get (D := D) (ci := 7) (v := .ref h1) (C := RX7) (T := TX7) (N := 7) hx hb hts hi7 hown hK hP 0 rfl rfl 0 (by decide) (hts (.fieldLink RX7 7 "GridInverterModel" "at" "[I") (by decide +kernel)) (fun _ h9 => h9) rfl dX7_violations_38 ?_
      refine lv_bipush (v := 77) hx hb dX7_violations_41 (by decide) ?_
      refine lv_iload_n hx hb dX7_violations_43 rfl (lv_at hl 1 rfl) ?_
      refine lv_iadd hx hb dX7_violations_44 ?_
      refine r_ald hx hb hK hP 1 0 rfl rfl (77 + p0.toNatClampNeg) (ix_add 77 (vio_ok hz hz8 (by subst ex1; subst ey4; exact c6)).1) (by have := (vio_ok hz hz8 (by subst ex1; subst ey4; exact c6)).2; omega) (Nat.le_of_ble_eq_true rfl) (v := (f (77 + p0.toNatClampNeg))) rfl dX7_violations_45 ?_
      refine lv_topi (fun x8 ex8 => ?_)
      exact K46 _ _ _ _ (by subst ex1; subst ey4; subst ex8; first | with_reducible rfl | (simp only [if_pos c6]; done) | rfl) (hP.sub [0, 1] rfl) (hD.sub [0, 1] (by decide) rfl) hS (lv_sub hl [0, 1] rfl)
    · refine lv_iconst (v := 0) hx hb dX7_violations_33 (by decide) ?_
      refine lv_goto (tgt := 46) hx hb dX7_violations_34 (by decide) ?_
      exact K46 _ _ _ _ (by subst ex1; subst ey4; first | with_reducible rfl | (simp only [if_neg c6]; done) | rfl) (hP.sub [0, 1] rfl) (hD.sub [0, 1] (by decide) rfl) hS (lv_sub hl [0, 1] rfl)
  refine lv_if_eq (tgt := 22) hx hb dX7_violations_15 (by decide) (fun c3 => ?_) (fun c3 => ?_)
  · refine lv_iconst (v := 1) hx hb dX7_violations_22 (by decide) ?_
    exact K23 _ _ _ _ (by subst ex1; first | with_reducible rfl | (simp only [if_pos c3]; done) | rfl) (hP.sub [0, 1] rfl) (hD.sub [0, 1] (by decide) rfl) hS (lv_sub hl [0, 1] rfl)
  · refine lv_iconst (v := 0) hx hb dX7_violations_18 (by decide) ?_
    refine lv_goto (tgt := 23) hx hb dX7_violations_19 (by decide) ?_
    exact K23 _ _ _ _ (by subst ex1; first | with_reducible rfl | (simp only [if_neg c3]; done) | rfl) (hP.sub [0, 1] rfl) (hD.sub [0, 1] (by decide) rfl) hS (lv_sub hl [0, 1] rfl)

def a_h1_X7_feedLine (f : Nat → Int32) : Nat → Int32 := (if (f 10) = 1 then (upd (upd (upd f 1 (f 11)) 2 (f 12)) 3 (r_X7_round ((f 3) + (f 12)))) else (if (f 9) = 0 then (upd (upd f 1 0) 3 (r_X7_round ((f 3) + (f 2)))) else (upd (upd (upd f 1 (r_X7_limited ((230 * (f 9)) / (f 13)) 0 400)) 2 (r_X7_limited (((f 2) + (((((f 5) + (f 28)) + ((((f 5) - 50000) * (f 29)) / 100)) - (f 2)) / 4)) + ((((f 14) - (f 2)) * (f 15)) / 100)) 40000 70000)) 3 (r_X7_round ((f 3) + (r_X7_limited (((f 2) + (((((f 5) + (f 28)) + ((((f 5) - 50000) * (f 29)) / 100)) - (f 2)) / 4)) + ((((f 14) - (f 2)) * (f 15)) / 100)) 40000 70000)))) : Nat → Int32) : Nat → Int32)
set_option maxHeartbeats 4000000 in
set_option maxRecDepth 100000 in
theorem mX7_feedLine (l : Launch) (D : va_G) (cI cJ cZ cO : ClassId) (h0 : Nat) (h1 : Nat) (h2 : Nat) (h3 : Nat) (h4 : Nat) (h5 : Nat) (me : Int64) (tw : Int32) (f : Nat → Int32) (hld : ¬ f 13 = 0) : MV l yX7_feedLine wsX7_feedLine ({ frames := 1, cells := 0, slots := 0, locals := 22 } : Room) D (tysK cI cJ cZ cO) [.ref h0] [(h0, .inr (7, [.ref h1, .long me, .ref h2, .ref h3, .ref h4, .ref h5, .int tw])), (h1, .inl (cI, 165, .inl f))] (fun (_ : Unit) => [(h0, .inr (7, [.ref h1, .long me, .ref h2, .ref h3, .ref h4, .ref h5, .int tw])), (h1, .inl (cI, 165, .inl (a_h1_X7_feedLine f)))]) := by
  refine MV.of (cc := cX7_feedLine) (maxL := 4) (by decide) rfl (Nat.le_of_ble_eq_true rfl) ?_
  intro p e s m args below meth c A Q ls H locs B hin hS hP hD hl hret
  obtain ⟨hx, hb, hml, hown, hts, hK, hN, hA, hlocks⟩ := B
  have hi7 : ∀ w ∈ u_ws RX7 TX7 7, w ∈ wsX7_feedLine := by decide +kernel
  have hl : lv_has ls 4 [(0, .ref h0)] := hl
  refine lv_aload_n hx hb dX7_feedLine_0 rfl (lv_at hl 0 rfl) ?_
  refine va_get (D := D) (ci := 7) (v := .ref h1) (C := RX7) (T := TX7) (N := 7) hx hb hts hi7 hown hK hP 0 rfl rfl 0 (by decide) (hts (.fieldLink RX7 7 "GridInverterModel" "at" "[I") (by decide +kernel)) (fun _ h9 => h9) rfl dX7_feedLine_1 ?_
  refine lv_bipush (v := 10) hx hb dX7_feedLine_4 (by decide) ?_
  refine r_ald hx hb hK hP 1 0 rfl rfl 10 rfl (Nat.le_of_ble_eq_true rfl) (Nat.le_of_ble_eq_true rfl) (v := (f 10)) rfl dX7_feedLine_6 ?_
  refine lv_iconst (v := 1) hx hb dX7_feedLine_7 (by decide) ?_
  refine lv_icmp_ne (tgt := 40) hx hb dX7_feedLine_8 (by decide) (fun c2 => ?_) (fun c2 => ?_)
  · refine lv_aload_n hx hb dX7_feedLine_40 rfl (lv_at hl 0 rfl) ?_
    refine va_get (D := D) (ci := 7) (v := .ref h1) (C := RX7) (T := TX7) (N := 7) hx hb hts hi7 hown hK hP 0 rfl rfl 0 (by decide) (hts (.fieldLink RX7 7 "GridInverterModel" "at" "[I") (by decide +kernel)) (fun _ h9 => h9) rfl dX7_feedLine_41 ?_
    refine lv_bipush (v := 9) hx hb dX7_feedLine_44 (by decide) ?_
    refine r_ald hx hb hK hP 1 0 rfl rfl 9 rfl (Nat.le_of_ble_eq_true rfl) (Nat.le_of_ble_eq_true rfl) (v := (f 9)) rfl dX7_feedLine_46 ?_
    refine lv_if_ne (tgt := 60) hx hb dX7_feedLine_47 (by decide) (fun c4 => ?_) (fun c4 => ?_)
    · refine lv_aload_n hx hb dX7_feedLine_60 rfl (lv_at hl 0 rfl) ?_
      refine va_get (D := D) (ci := 7) (v := .ref h1) (C := RX7) (T := TX7) (N := 7) hx hb hts hi7 hown hK hP 0 rfl rfl 0 (by decide) (hts (.fieldLink RX7 7 "GridInverterModel" "at" "[I") (by decide +kernel)) (fun _ h9 => h9) rfl dX7_feedLine_61 ?_
      refine lv_iconst (v := 1) hx hb dX7_feedLine_64 (by decide) ?_
      refine lv_sipush (v := 230) hx hb dX7_feedLine_65 (by decide) ?_
      refine lv_aload_n hx hb dX7_feedLine_68 rfl (lv_at hl 0 rfl) ?_
      refine va_get (D := D) (ci := 7) (v := .ref h1) (C := RX7) (T := TX7) (N := 7) hx hb hts hi7 hown hK hP 0 rfl rfl 0 (by decide) (hts (.fieldLink RX7 7 "GridInverterModel" "at" "[I") (by decide +kernel)) (fun _ h9 => h9) rfl dX7_feedLine_69 ?_
      refine lv_bipush (v := 9) hx hb dX7_feedLine_72 (by decide) ?_
      refine r_ald hx hb hK hP 1 0 rfl rfl 9 rfl (Nat.le_of_ble_eq_true rfl) (Nat.le_of_ble_eq_true rfl) (v := (f 9)) rfl dX7_feedLine_74 ?_
      refine lv_imul hx hb dX7_feedLine_75 ?_
      refine lv_aload_n hx hb dX7_feedLine_76 rfl (lv_at hl 0 rfl) ?_
      refine va_get (D := D) (ci := 7) (v := .ref h1) (C := RX7) (T := TX7) (N := 7) hx hb hts hi7 hown hK hP 0 rfl rfl 0 (by decide) (hts (.fieldLink RX7 7 "GridInverterModel" "at" "[I") (by decide +kernel)) (fun _ h9 => h9) rfl dX7_feedLine_77 ?_
      refine lv_bipush (v := 13) hx hb dX7_feedLine_80 (by decide) ?_
      refine r_ald hx hb hK hP 1 0 rfl rfl 13 rfl (Nat.le_of_ble_eq_true rfl) (Nat.le_of_ble_eq_true rfl) (v := (f 13)) rfl dX7_feedLine_82 ?_
      refine lv_idiv hx hb dX7_feedLine_83 hld ?_
      refine lv_iconst (v := 0) hx hb dX7_feedLine_84 (by decide) ?_
      refine lv_sipush (v := 400) hx hb dX7_feedLine_85 (by decide) ?_
      refine call_i (wr := [(h0, .inr (7, [.ref h1, .long me, .ref h2, .ref h3, .ref h4, .ref h5, .int tw])), (h1, .inl (cI, 165, .inl f))]) (k := 0) (n := 0) (run_S (As := [.int ((230 * (f 9)) / (f 13)), .int 0, .int 400]) (rest := [.int 1, .ref h1]) ⟨hx, hb, hml, hown, hts⟩ (mX7_limited l D cI cJ cZ cO ((230 * (f 9)) / (f 13)) 0 400 H.size) (va_cwS 3 hts gX7_feedLine_X7_limited rfl rfl rfl (by decide +kernel) ⟨Nat.le_of_ble_eq_true rfl, Nat.le_of_ble_eq_true rfl⟩) hK hN hP hD [] (by decide) rfl rfl rfl hl.1 (Nat.le_of_ble_eq_true rfl) dX7_feedLine_88 ⟨Nat.le_of_ble_eq_true rfl, Nat.le_of_ble_eq_true rfl⟩) hP hD hS hA [] [0, 1] rfl rfl (by decide) (by decide) (Nat.le_of_ble_eq_true rfl) (Nat.le_of_ble_eq_true rfl) (fun H locs hP hD hS => ?_)
      have hP : va_P D vwCl [(h0, .inr (7, [.ref h1, .long me, .ref h2, .ref h3, .ref h4, .ref h5, .int tw])), (h1, .inl (cI, 165, .inl f))] H := hP
      have hD : va_D A [(h0, .inr (7, [.ref h1, .long me, .ref h2, .ref h3, .ref h4, .ref h5, .int tw])), (h1, .inl (cI, 165, .inl f))] := hD
      refine lv_topi (fun x5 ex5 => ?_)
      refine r_ast hx hb hK hP hD hS 1 0 rfl rfl 1 rfl (Nat.le_of_ble_eq_true rfl) (Nat.le_of_ble_eq_true rfl) dX7_feedLine_91 (fun H locs hP hD hS => ?_)
      have hP : va_P D vwCl [(h0, .inr (7, [.ref h1, .long me, .ref h2, .ref h3, .ref h4, .ref h5, .int tw])), (h1, .inl (cI, 165, .inl (upd f 1 x5)))] H := hP
      have hD : va_D A [(h0, .inr (7, [.ref h1, .long me, .ref h2, .ref h3, .ref h4, .ref h5, .int tw])), (h1, .inl (cI, 165, .inl (upd f 1 x5)))] := hD
      refine lv_aload_n hx hb dX7_feedLine_92 rfl (lv_at hl 0 rfl) ?_
      refine va_get (D := D) (ci := 7) (v := .ref h1) (C := RX7) (T := TX7) (N := 7) hx hb hts hi7 hown hK hP 0 rfl rfl 0 (by decide) (hts (.fieldLink RX7 7 "GridInverterModel" "at" "[I") (by decide +kernel)) (fun _ h9 => h9) rfl dX7_feedLine_93 ?_
      refine lv_iconst (v := 5) hx hb dX7_feedLine_96 (by decide) ?_
      refine r_ald hx hb hK hP 1 0 rfl rfl 5 rfl (Nat.le_of_ble_eq_true rfl) (Nat.le_of_ble_eq_true rfl) (v := (f 5)) (by rfl) dX7_feedLine_97 ?_
      refine lv_istore_n (lv' := [(1, .int (f 5)), (0, .ref h0)]) hx hb dX7_feedLine_98 rfl hl (by decide) rfl (fun ls hl => ?_)
      refine lv_iload_n hx hb dX7_feedLine_99 rfl (lv_at hl 0 rfl) ?_
      refine lv_aload_n hx hb dX7_feedLine_100 rfl (lv_at hl 1 rfl) ?_
      refine va_get (D := D) (ci := 7) (v := .ref h1) (C := RX7) (T := TX7) (N := 7) hx hb hts hi7 hown hK hP 0 rfl rfl 0 (by decide) (hts (.fieldLink RX7 7 "GridInverterModel" "at" "[I") (by decide +kernel)) (fun _ h9 => h9) rfl dX7_feedLine_101 ?_
      refine lv_bipush (v := 28) hx hb dX7_feedLine_104 (by decide) ?_
      refine r_ald hx hb hK hP 1 0 rfl rfl 28 rfl (Nat.le_of_ble_eq_true rfl) (Nat.le_of_ble_eq_true rfl) (v := (f 28)) (by rfl) dX7_feedLine_106 ?_
      refine lv_iadd hx hb dX7_feedLine_107 ?_
      refine lv_iload_n hx hb dX7_feedLine_108 rfl (lv_at hl 0 rfl) ?_
      refine lv_ldc hx hb hown (hts (.constant RX7 27 (50000)) (by decide +kernel)) dX7_feedLine_109 ?_
      refine lv_isub hx hb dX7_feedLine_111 ?_
      refine lv_aload_n hx hb dX7_feedLine_112 rfl (lv_at hl 1 rfl) ?_
      refine va_get (D := D) (ci := 7) (v := .ref h1) (C := RX7) (T := TX7) (N := 7) hx hb hts hi7 hown hK hP 0 rfl rfl 0 (by decide) (hts (.fieldLink RX7 7 "GridInverterModel" "at" "[I") (by decide +kernel)) (fun _ h9 => h9) rfl dX7_feedLine_113 ?_
      refine lv_bipush (v := 29) hx hb dX7_feedLine_116 (by decide) ?_
      refine r_ald hx hb hK hP 1 0 rfl rfl 29 rfl (Nat.le_of_ble_eq_true rfl) (Nat.le_of_ble_eq_true rfl) (v := (f 29)) (by rfl) dX7_feedLine_118 ?_
      refine lv_imul hx hb dX7_feedLine_119 ?_
      refine lv_bipush (v := 100) hx hb dX7_feedLine_120 (by decide) ?_
      refine lv_idiv hx hb dX7_feedLine_122 (by decide) ?_
      refine lv_topi (fun x6 ex6 => ?_)
      refine lv_iadd hx hb dX7_feedLine_123 ?_
      refine lv_istore_n (lv' := [(2, .int (((f 5) + (f 28)) + x6)), (1, .int (f 5)), (0, .ref h0)]) hx hb dX7_feedLine_124 rfl hl (by decide) rfl (fun ls hl => ?_)
      refine lv_aload_n hx hb dX7_feedLine_125 rfl (lv_at hl 2 rfl) ?_
      refine va_get (D := D) (ci := 7) (v := .ref h1) (C := RX7) (T := TX7) (N := 7) hx hb hts hi7 hown hK hP 0 rfl rfl 0 (by decide) (hts (.fieldLink RX7 7 "GridInverterModel" "at" "[I") (by decide +kernel)) (fun _ h9 => h9) rfl dX7_feedLine_126 ?_
      refine lv_iconst (v := 2) hx hb dX7_feedLine_129 (by decide) ?_
      refine r_ald hx hb hK hP 1 0 rfl rfl 2 rfl (Nat.le_of_ble_eq_true rfl) (Nat.le_of_ble_eq_true rfl) (v := (f 2)) (by rfl) dX7_feedLine_130 ?_
      refine lv_istore_n (lv' := [(3, .int (f 2)), (2, .int (((f 5) + (f 28)) + x6)), (1, .int (f 5)), (0, .ref h0)]) hx hb dX7_feedLine_131 rfl hl (by decide) rfl (fun ls hl => ?_)
      refine lv_aload_n hx hb dX7_feedLine_132 rfl (lv_at hl 3 rfl) ?_
      refine va_get (D := D) (ci := 7) (v := .ref h1) (C := RX7) (T := TX7) (N := 7) hx hb hts hi7 hown hK hP 0 rfl rfl 0 (by decide) (hts (.fieldLink RX7 7 "GridInverterModel" "at" "[I") (by decide +kernel)) (fun _ h9 => h9) rfl dX7_feedLine_133 ?_
      refine lv_iconst (v := 2) hx hb dX7_feedLine_136 (by decide) ?_
      refine lv_iload_n hx hb dX7_feedLine_137 rfl (lv_at hl 0 rfl) ?_
      refine lv_iload_n hx hb dX7_feedLine_138 rfl (lv_at hl 1 rfl) ?_
      refine lv_iload_n hx hb dX7_feedLine_139 rfl (lv_at hl 0 rfl) ?_
      refine lv_isub hx hb dX7_feedLine_140 ?_
      refine lv_topi (fun x7 ex7 => ?_)
      refine lv_iconst (v := 4) hx hb dX7_feedLine_141 (by decide) ?_
      refine lv_idiv hx hb dX7_feedLine_142 (by decide) ?_
      refine lv_iadd hx hb dX7_feedLine_143 ?_
      refine lv_aload_n hx hb dX7_feedLine_144 rfl (lv_at hl 3 rfl) ?_
      refine va_get (D := D) (ci := 7) (v := .ref h1) (C := RX7) (T := TX7) (N := 7) hx hb hts hi7 hown hK hP 0 rfl rfl 0 (by decide) (hts (.fieldLink RX7 7 "GridInverterModel" "at" "[I") (by decide +kernel)) (fun _ h9 => h9) rfl dX7_feedLine_145 ?_
      refine lv_bipush (v := 14) hx hb dX7_feedLine_148 (by decide) ?_
      refine r_ald hx hb hK hP 1 0 rfl rfl 14 rfl (Nat.le_of_ble_eq_true rfl) (Nat.le_of_ble_eq_true rfl) (v := (f 14)) (by rfl) dX7_feedLine_150 ?_
      refine lv_iload_n hx hb dX7_feedLine_151 rfl (lv_at hl 0 rfl) ?_
      refine lv_isub hx hb dX7_feedLine_152 ?_
      refine lv_aload_n hx hb dX7_feedLine_153 rfl (lv_at hl 3 rfl) ?_
      refine va_get (D := D) (ci := 7) (v := .ref h1) (C := RX7) (T := TX7) (N := 7) hx hb hts hi7 hown hK hP 0 rfl rfl 0 (by decide) (hts (.fieldLink RX7 7 "GridInverterModel" "at" "[I") (by decide +kernel)) (fun _ h9 => h9) rfl dX7_feedLine_154 ?_
      refine lv_bipush (v := 15) hx hb dX7_feedLine_157 (by decide) ?_
      refine r_ald hx hb hK hP 1 0 rfl rfl 15 rfl (Nat.le_of_ble_eq_true rfl) (Nat.le_of_ble_eq_true rfl) (v := (f 15)) (by rfl) dX7_feedLine_159 ?_
      refine lv_imul hx hb dX7_feedLine_160 ?_
      refine lv_topi (fun x8 ex8 => ?_)
      refine lv_bipush (v := 100) hx hb dX7_feedLine_161 (by decide) ?_
      refine lv_idiv hx hb dX7_feedLine_163 (by decide) ?_
      refine lv_iadd hx hb dX7_feedLine_164 ?_
      refine lv_topi (fun x9 ex9 => ?_)
      refine lv_ldc hx hb hown (hts (.constant RX7 55 (40000)) (by decide +kernel)) dX7_feedLine_165 ?_
      refine lv_ldc hx hb hown (hts (.constant RX7 56 (70000)) (by decide +kernel)) dX7_feedLine_167 ?_
      refine call_i (wr := [(h0, .inr (7, [.ref h1, .long me, .ref h2, .ref h3, .ref h4, .ref h5, .int tw])), (h1, .inl (cI, 165, .inl (upd f 1 x5)))]) (k := 0) (n := 0) (run_S (As := [.int x9, .int 40000, .int 70000]) (rest := [.int 2, .ref h1]) ⟨hx, hb, hml, hown, hts⟩ (mX7_limited l D cI cJ cZ cO x9 40000 70000 H.size) (va_cwS 3 hts gX7_feedLine_X7_limited rfl rfl rfl (by decide +kernel) ⟨Nat.le_of_ble_eq_true rfl, Nat.le_of_ble_eq_true rfl⟩) hK hN hP hD [] (by decide) rfl rfl rfl hl.1 (Nat.le_of_ble_eq_true rfl) dX7_feedLine_169 ⟨Nat.le_of_ble_eq_true rfl, Nat.le_of_ble_eq_true rfl⟩) hP hD hS hA [] [0, 1] rfl rfl (by decide) (by decide) (Nat.le_of_ble_eq_true rfl) (Nat.le_of_ble_eq_true rfl) (fun H locs hP hD hS => ?_)
      have hP : va_P D vwCl [(h0, .inr (7, [.ref h1, .long me, .ref h2, .ref h3, .ref h4, .ref h5, .int tw])), (h1, .inl (cI, 165, .inl (upd f 1 x5)))] H := hP
      have hD : va_D A [(h0, .inr (7, [.ref h1, .long me, .ref h2, .ref h3, .ref h4, .ref h5, .int tw])), (h1, .inl (cI, 165, .inl (upd f 1 x5)))] := hD
      refine lv_topi (fun x10 ex10 => ?_)
      refine r_ast hx hb hK hP hD hS 1 0 rfl rfl 2 rfl (Nat.le_of_ble_eq_true rfl) (Nat.le_of_ble_eq_true rfl) dX7_feedLine_172 (fun H locs hP hD hS => ?_)
      have hP : va_P D vwCl [(h0, .inr (7, [.ref h1, .long me, .ref h2, .ref h3, .ref h4, .ref h5, .int tw])), (h1, .inl (cI, 165, .inl (upd (upd f 1 x5) 2 x10)))] H := hP
      have hD : va_D A [(h0, .inr (7, [.ref h1, .long me, .ref h2, .ref h3, .ref h4, .ref h5, .int tw])), (h1, .inl (cI, 165, .inl (upd (upd f 1 x5) 2 x10)))] := hD
      refine lv_aload_n hx hb dX7_feedLine_173 rfl (lv_at hl 3 rfl) ?_
      refine va_get (D := D) (ci := 7) (v := .ref h1) (C := RX7) (T := TX7) (N := 7) hx hb hts hi7 hown hK hP 0 rfl rfl 0 (by decide) (hts (.fieldLink RX7 7 "GridInverterModel" "at" "[I") (by decide +kernel)) (fun _ h9 => h9) rfl dX7_feedLine_174 ?_
      refine lv_iconst (v := 3) hx hb dX7_feedLine_177 (by decide) ?_
      refine lv_aload_n hx hb dX7_feedLine_178 rfl (lv_at hl 3 rfl) ?_
      refine va_get (D := D) (ci := 7) (v := .ref h1) (C := RX7) (T := TX7) (N := 7) hx hb hts hi7 hown hK hP 0 rfl rfl 0 (by decide) (hts (.fieldLink RX7 7 "GridInverterModel" "at" "[I") (by decide +kernel)) (fun _ h9 => h9) rfl dX7_feedLine_179 ?_
      refine lv_iconst (v := 3) hx hb dX7_feedLine_182 (by decide) ?_
      refine r_ald hx hb hK hP 1 0 rfl rfl 3 rfl (Nat.le_of_ble_eq_true rfl) (Nat.le_of_ble_eq_true rfl) (v := (f 3)) (by rfl) dX7_feedLine_183 ?_
      refine lv_aload_n hx hb dX7_feedLine_184 rfl (lv_at hl 3 rfl) ?_
      refine va_get (D := D) (ci := 7) (v := .ref h1) (C := RX7) (T := TX7) (N := 7) hx hb hts hi7 hown hK hP 0 rfl rfl 0 (by decide) (hts (.fieldLink RX7 7 "GridInverterModel" "at" "[I") (by decide +kernel)) (fun _ h9 => h9) rfl dX7_feedLine_185 ?_
      refine lv_iconst (v := 2) hx hb dX7_feedLine_188 (by decide) ?_
      refine r_ald hx hb hK hP 1 0 rfl rfl 2 rfl (Nat.le_of_ble_eq_true rfl) (Nat.le_of_ble_eq_true rfl) (v := x10) (by exact pk_us) dX7_feedLine_189 ?_
      refine lv_iadd hx hb dX7_feedLine_190 ?_
      refine call_i (wr := [(h0, .inr (7, [.ref h1, .long me, .ref h2, .ref h3, .ref h4, .ref h5, .int tw])), (h1, .inl (cI, 165, .inl (upd (upd f 1 x5) 2 x10)))]) (k := 0) (n := 0) (run_S (As := [.int ((f 3) + x10)]) (rest := [.int 3, .ref h1]) ⟨hx, hb, hml, hown, hts⟩ (mX7_round l D cI cJ cZ cO ((f 3) + x10) H.size) (va_cwS 1 hts gX7_feedLine_X7_round rfl rfl rfl (by decide +kernel) ⟨Nat.le_of_ble_eq_true rfl, Nat.le_of_ble_eq_true rfl⟩) hK hN hP hD [] (by decide) rfl rfl rfl hl.1 (Nat.le_of_ble_eq_true rfl) dX7_feedLine_191 ⟨Nat.le_of_ble_eq_true rfl, Nat.le_of_ble_eq_true rfl⟩) hP hD hS hA [] [0, 1] rfl rfl (by decide) (by decide) (Nat.le_of_ble_eq_true rfl) (Nat.le_of_ble_eq_true rfl) (fun H locs hP hD hS => ?_)
      have hP : va_P D vwCl [(h0, .inr (7, [.ref h1, .long me, .ref h2, .ref h3, .ref h4, .ref h5, .int tw])), (h1, .inl (cI, 165, .inl (upd (upd f 1 x5) 2 x10)))] H := hP
      have hD : va_D A [(h0, .inr (7, [.ref h1, .long me, .ref h2, .ref h3, .ref h4, .ref h5, .int tw])), (h1, .inl (cI, 165, .inl (upd (upd f 1 x5) 2 x10)))] := hD
      refine r_ast hx hb hK hP hD hS 1 0 rfl rfl 3 rfl (Nat.le_of_ble_eq_true rfl) (Nat.le_of_ble_eq_true rfl) dX7_feedLine_194 (fun H locs hP hD hS => ?_)
      obtain ⟨x11, ex11⟩ : ∃ zz_, zz_ = (upd (upd (upd f 1 x5) 2 x10) 3 (r_X7_round ((f 3) + x10))) := ⟨_, rfl⟩
      have hP : va_P D vwCl [(h0, .inr (7, [.ref h1, .long me, .ref h2, .ref h3, .ref h4, .ref h5, .int tw])), (h1, .inl (cI, 165, .inl x11))] H := by rw [ex11]; exact hP
      have hD : va_D A [(h0, .inr (7, [.ref h1, .long me, .ref h2, .ref h3, .ref h4, .ref h5, .int tw])), (h1, .inl (cI, 165, .inl x11))] := by rw [ex11]; exact hD
      exact hret () _ _ _ _ _ _ _ (by subst ex5; subst ex6; subst ex7; subst ex8; subst ex9; subst ex10; subst ex11; first | with_reducible rfl | (simp only [a_h1_X7_feedLine, if_neg c2, if_neg c4]; done) | rfl) hP hD hS (Nat.le_of_ble_eq_true rfl) (Nat.le_of_ble_eq_true rfl) dX7_feedLine_195
    · refine lv_aload_n hx hb dX7_feedLine_50 rfl (lv_at hl 0 rfl) ?_
      refine va_get (D := D) (ci := 7) (v := .ref h1) (C := RX7) (T := TX7) (N := 7) hx hb hts hi7 hown hK hP 0 rfl rfl 0 (by decide) (hts (.fieldLink RX7 7 "GridInverterModel" "at" "[I") (by decide +kernel)) (fun _ h9 => h9) rfl dX7_feedLine_51 ?_
      refine lv_iconst (v := 1) hx hb dX7_feedLine_54 (by decide) ?_
      refine lv_iconst (v := 0) hx hb dX7_feedLine_55 (by decide) ?_
      refine r_ast hx hb hK hP hD hS 1 0 rfl rfl 1 rfl (Nat.le_of_ble_eq_true rfl) (Nat.le_of_ble_eq_true rfl) dX7_feedLine_56 (fun H locs hP hD hS => ?_)
      have hP : va_P D vwCl [(h0, .inr (7, [.ref h1, .long me, .ref h2, .ref h3, .ref h4, .ref h5, .int tw])), (h1, .inl (cI, 165, .inl (upd f 1 0)))] H := hP
      have hD : va_D A [(h0, .inr (7, [.ref h1, .long me, .ref h2, .ref h3, .ref h4, .ref h5, .int tw])), (h1, .inl (cI, 165, .inl (upd f 1 0)))] := hD
      refine lv_goto (tgt := 173) hx hb dX7_feedLine_57 (by decide) ?_
      refine lv_aload_n hx hb dX7_feedLine_173 rfl (lv_at hl 0 rfl) ?_
      refine va_get (D := D) (ci := 7) (v := .ref h1) (C := RX7) (T := TX7) (N := 7) hx hb hts hi7 hown hK hP 0 rfl rfl 0 (by decide) (hts (.fieldLink RX7 7 "GridInverterModel" "at" "[I") (by decide +kernel)) (fun _ h9 => h9) rfl dX7_feedLine_174 ?_
      refine lv_iconst (v := 3) hx hb dX7_feedLine_177 (by decide) ?_
      refine lv_aload_n hx hb dX7_feedLine_178 rfl (lv_at hl 0 rfl) ?_
      refine va_get (D := D) (ci := 7) (v := .ref h1) (C := RX7) (T := TX7) (N := 7) hx hb hts hi7 hown hK hP 0 rfl rfl 0 (by decide) (hts (.fieldLink RX7 7 "GridInverterModel" "at" "[I") (by decide +kernel)) (fun _ h9 => h9) rfl dX7_feedLine_179 ?_
      refine lv_iconst (v := 3) hx hb dX7_feedLine_182 (by decide) ?_
      refine r_ald hx hb hK hP 1 0 rfl rfl 3 rfl (Nat.le_of_ble_eq_true rfl) (Nat.le_of_ble_eq_true rfl) (v := (f 3)) (by rfl) dX7_feedLine_183 ?_
      refine lv_aload_n hx hb dX7_feedLine_184 rfl (lv_at hl 0 rfl) ?_
      refine va_get (D := D) (ci := 7) (v := .ref h1) (C := RX7) (T := TX7) (N := 7) hx hb hts hi7 hown hK hP 0 rfl rfl 0 (by decide) (hts (.fieldLink RX7 7 "GridInverterModel" "at" "[I") (by decide +kernel)) (fun _ h9 => h9) rfl dX7_feedLine_185 ?_
      refine lv_iconst (v := 2) hx hb dX7_feedLine_188 (by decide) ?_
      refine r_ald hx hb hK hP 1 0 rfl rfl 2 rfl (Nat.le_of_ble_eq_true rfl) (Nat.le_of_ble_eq_true rfl) (v := (f 2)) (by rfl) dX7_feedLine_189 ?_
      refine lv_iadd hx hb dX7_feedLine_190 ?_
      refine call_i (wr := [(h0, .inr (7, [.ref h1, .long me, .ref h2, .ref h3, .ref h4, .ref h5, .int tw])), (h1, .inl (cI, 165, .inl (upd f 1 0)))]) (k := 0) (n := 0) (run_S (As := [.int ((f 3) + (f 2))]) (rest := [.int 3, .ref h1]) ⟨hx, hb, hml, hown, hts⟩ (mX7_round l D cI cJ cZ cO ((f 3) + (f 2)) H.size) (va_cwS 1 hts gX7_feedLine_X7_round rfl rfl rfl (by decide +kernel) ⟨Nat.le_of_ble_eq_true rfl, Nat.le_of_ble_eq_true rfl⟩) hK hN hP hD [] (by decide) rfl rfl rfl hl.1 (Nat.le_of_ble_eq_true rfl) dX7_feedLine_191 ⟨Nat.le_of_ble_eq_true rfl, Nat.le_of_ble_eq_true rfl⟩) hP hD hS hA [] [0, 1] rfl rfl (by decide) (by decide) (Nat.le_of_ble_eq_true rfl) (Nat.le_of_ble_eq_true rfl) (fun H locs hP hD hS => ?_)
      have hP : va_P D vwCl [(h0, .inr (7, [.ref h1, .long me, .ref h2, .ref h3, .ref h4, .ref h5, .int tw])), (h1, .inl (cI, 165, .inl (upd f 1 0)))] H := hP
      have hD : va_D A [(h0, .inr (7, [.ref h1, .long me, .ref h2, .ref h3, .ref h4, .ref h5, .int tw])), (h1, .inl (cI, 165, .inl (upd f 1 0)))] := hD
      refine lv_topi (fun x12 ex12 => ?_)
      refine r_ast hx hb hK hP hD hS 1 0 rfl rfl 3 rfl (Nat.le_of_ble_eq_true rfl) (Nat.le_of_ble_eq_true rfl) dX7_feedLine_194 (fun H locs hP hD hS => ?_)
      have hP : va_P D vwCl [(h0, .inr (7, [.ref h1, .long me, .ref h2, .ref h3, .ref h4, .ref h5, .int tw])), (h1, .inl (cI, 165, .inl (upd (upd f 1 0) 3 x12)))] H := hP
      have hD : va_D A [(h0, .inr (7, [.ref h1, .long me, .ref h2, .ref h3, .ref h4, .ref h5, .int tw])), (h1, .inl (cI, 165, .inl (upd (upd f 1 0) 3 x12)))] := hD
      exact hret () _ _ _ _ _ _ _ (by subst ex12; first | with_reducible rfl | (simp only [a_h1_X7_feedLine, if_neg c2, if_pos c4]; done) | rfl) hP hD hS (Nat.le_of_ble_eq_true rfl) (Nat.le_of_ble_eq_true rfl) dX7_feedLine_195
  · refine lv_aload_n hx hb dX7_feedLine_11 rfl (lv_at hl 0 rfl) ?_
    refine va_get (D := D) (ci := 7) (v := .ref h1) (C := RX7) (T := TX7) (N := 7) hx hb hts hi7 hown hK hP 0 rfl rfl 0 (by decide) (hts (.fieldLink RX7 7 "GridInverterModel" "at" "[I") (by decide +kernel)) (fun _ h9 => h9) rfl dX7_feedLine_12 ?_
    refine lv_iconst (v := 1) hx hb dX7_feedLine_15 (by decide) ?_
    refine lv_aload_n hx hb dX7_feedLine_16 rfl (lv_at hl 0 rfl) ?_
    refine va_get (D := D) (ci := 7) (v := .ref h1) (C := RX7) (T := TX7) (N := 7) hx hb hts hi7 hown hK hP 0 rfl rfl 0 (by decide) (hts (.fieldLink RX7 7 "GridInverterModel" "at" "[I") (by decide +kernel)) (fun _ h9 => h9) rfl dX7_feedLine_17 ?_
    refine lv_bipush (v := 11) hx hb dX7_feedLine_20 (by decide) ?_
    refine r_ald hx hb hK hP 1 0 rfl rfl 11 rfl (Nat.le_of_ble_eq_true rfl) (Nat.le_of_ble_eq_true rfl) (v := (f 11)) rfl dX7_feedLine_22 ?_
    refine r_ast hx hb hK hP hD hS 1 0 rfl rfl 1 rfl (Nat.le_of_ble_eq_true rfl) (Nat.le_of_ble_eq_true rfl) dX7_feedLine_23 (fun H locs hP hD hS => ?_)
    have hP : va_P D vwCl [(h0, .inr (7, [.ref h1, .long me, .ref h2, .ref h3, .ref h4, .ref h5, .int tw])), (h1, .inl (cI, 165, .inl (upd f 1 (f 11))))] H := hP
    have hD : va_D A [(h0, .inr (7, [.ref h1, .long me, .ref h2, .ref h3, .ref h4, .ref h5, .int tw])), (h1, .inl (cI, 165, .inl (upd f 1 (f 11))))] := hD
    refine lv_aload_n hx hb dX7_feedLine_24 rfl (lv_at hl 0 rfl) ?_
    refine va_get (D := D) (ci := 7) (v := .ref h1) (C := RX7) (T := TX7) (N := 7) hx hb hts hi7 hown hK hP 0 rfl rfl 0 (by decide) (hts (.fieldLink RX7 7 "GridInverterModel" "at" "[I") (by decide +kernel)) (fun _ h9 => h9) rfl dX7_feedLine_25 ?_
    refine lv_iconst (v := 2) hx hb dX7_feedLine_28 (by decide) ?_
    refine lv_aload_n hx hb dX7_feedLine_29 rfl (lv_at hl 0 rfl) ?_
    refine va_get (D := D) (ci := 7) (v := .ref h1) (C := RX7) (T := TX7) (N := 7) hx hb hts hi7 hown hK hP 0 rfl rfl 0 (by decide) (hts (.fieldLink RX7 7 "GridInverterModel" "at" "[I") (by decide +kernel)) (fun _ h9 => h9) rfl dX7_feedLine_30 ?_
    refine lv_bipush (v := 12) hx hb dX7_feedLine_33 (by decide) ?_
    refine r_ald hx hb hK hP 1 0 rfl rfl 12 rfl (Nat.le_of_ble_eq_true rfl) (Nat.le_of_ble_eq_true rfl) (v := (f 12)) (by rfl) dX7_feedLine_35 ?_
    refine r_ast hx hb hK hP hD hS 1 0 rfl rfl 2 rfl (Nat.le_of_ble_eq_true rfl) (Nat.le_of_ble_eq_true rfl) dX7_feedLine_36 (fun H locs hP hD hS => ?_)
    obtain ⟨x13, ex13⟩ : ∃ zz_, zz_ = (upd (upd f 1 (f 11)) 2 (f 12)) := ⟨_, rfl⟩
    have hP : va_P D vwCl [(h0, .inr (7, [.ref h1, .long me, .ref h2, .ref h3, .ref h4, .ref h5, .int tw])), (h1, .inl (cI, 165, .inl x13))] H := by rw [ex13]; exact hP
    have hD : va_D A [(h0, .inr (7, [.ref h1, .long me, .ref h2, .ref h3, .ref h4, .ref h5, .int tw])), (h1, .inl (cI, 165, .inl x13))] := by rw [ex13]; exact hD
    refine lv_goto (tgt := 173) hx hb dX7_feedLine_37 (by decide) ?_
    refine lv_aload_n hx hb dX7_feedLine_173 rfl (lv_at hl 0 rfl) ?_
    refine va_get (D := D) (ci := 7) (v := .ref h1) (C := RX7) (T := TX7) (N := 7) hx hb hts hi7 hown hK hP 0 rfl rfl 0 (by decide) (hts (.fieldLink RX7 7 "GridInverterModel" "at" "[I") (by decide +kernel)) (fun _ h9 => h9) rfl dX7_feedLine_174 ?_
    refine lv_iconst (v := 3) hx hb dX7_feedLine_177 (by decide) ?_
    refine lv_aload_n hx hb dX7_feedLine_178 rfl (lv_at hl 0 rfl) ?_
    refine va_get (D := D) (ci := 7) (v := .ref h1) (C := RX7) (T := TX7) (N := 7) hx hb hts hi7 hown hK hP 0 rfl rfl 0 (by decide) (hts (.fieldLink RX7 7 "GridInverterModel" "at" "[I") (by decide +kernel)) (fun _ h9 => h9) rfl dX7_feedLine_179 ?_
    refine lv_iconst (v := 3) hx hb dX7_feedLine_182 (by decide) ?_
    refine r_ald hx hb hK hP 1 0 rfl rfl 3 rfl (Nat.le_of_ble_eq_true rfl) (Nat.le_of_ble_eq_true rfl) (v := (f 3)) (by subst ex13; rfl) dX7_feedLine_183 ?_
    refine lv_aload_n hx hb dX7_feedLine_184 rfl (lv_at hl 0 rfl) ?_
    refine va_get (D := D) (ci := 7) (v := .ref h1) (C := RX7) (T := TX7) (N := 7) hx hb hts hi7 hown hK hP 0 rfl rfl 0 (by decide) (hts (.fieldLink RX7 7 "GridInverterModel" "at" "[I") (by decide +kernel)) (fun _ h9 => h9) rfl dX7_feedLine_185 ?_
    refine lv_iconst (v := 2) hx hb dX7_feedLine_188 (by decide) ?_
    refine r_ald hx hb hK hP 1 0 rfl rfl 2 rfl (Nat.le_of_ble_eq_true rfl) (Nat.le_of_ble_eq_true rfl) (v := (f 12)) (by subst ex13; exact pk_us) dX7_feedLine_189 ?_
    refine lv_iadd hx hb dX7_feedLine_190 ?_
    refine call_i (wr := [(h0, .inr (7, [.ref h1, .long me, .ref h2, .ref h3, .ref h4, .ref h5, .int tw])), (h1, .inl (cI, 165, .inl x13))]) (k := 0) (n := 0) (run_S (As := [.int ((f 3) + (f 12))]) (rest := [.int 3, .ref h1]) ⟨hx, hb, hml, hown, hts⟩ (mX7_round l D cI cJ cZ cO ((f 3) + (f 12)) H.size) (va_cwS 1 hts gX7_feedLine_X7_round rfl rfl rfl (by decide +kernel) ⟨Nat.le_of_ble_eq_true rfl, Nat.le_of_ble_eq_true rfl⟩) hK hN hP hD [] (by decide) rfl rfl rfl hl.1 (Nat.le_of_ble_eq_true rfl) dX7_feedLine_191 ⟨Nat.le_of_ble_eq_true rfl, Nat.le_of_ble_eq_true rfl⟩) hP hD hS hA [] [0, 1] rfl rfl (by decide) (by decide) (Nat.le_of_ble_eq_true rfl) (Nat.le_of_ble_eq_true rfl) (fun H locs hP hD hS => ?_)
    have hP : va_P D vwCl [(h0, .inr (7, [.ref h1, .long me, .ref h2, .ref h3, .ref h4, .ref h5, .int tw])), (h1, .inl (cI, 165, .inl x13))] H := hP
    have hD : va_D A [(h0, .inr (7, [.ref h1, .long me, .ref h2, .ref h3, .ref h4, .ref h5, .int tw])), (h1, .inl (cI, 165, .inl x13))] := hD
    refine lv_topi (fun x14 ex14 => ?_)
    refine r_ast hx hb hK hP hD hS 1 0 rfl rfl 3 rfl (Nat.le_of_ble_eq_true rfl) (Nat.le_of_ble_eq_true rfl) dX7_feedLine_194 (fun H locs hP hD hS => ?_)
    have hP : va_P D vwCl [(h0, .inr (7, [.ref h1, .long me, .ref h2, .ref h3, .ref h4, .ref h5, .int tw])), (h1, .inl (cI, 165, .inl (upd x13 3 x14)))] H := hP
    have hD : va_D A [(h0, .inr (7, [.ref h1, .long me, .ref h2, .ref h3, .ref h4, .ref h5, .int tw])), (h1, .inl (cI, 165, .inl (upd x13 3 x14)))] := hD
    exact hret () _ _ _ _ _ _ _ (by subst ex13; subst ex14; first | with_reducible rfl | (simp only [a_h1_X7_feedLine, if_pos c2]; done) | rfl) hP hD hS (Nat.le_of_ble_eq_true rfl) (Nat.le_of_ble_eq_true rfl) dX7_feedLine_195

def a_h1_X7_follow (f : Nat → Int32) : Nat → Int32 := (if (f 1) < 20 then (upd (upd (upd f 6 0) 4 (r_X7_round ((f 4) + (f 5)))) 7 0) else (upd (upd (upd (upd f 6 (if (r_X7_round ((f 3) - ((f 4) + (f 5)))) < 500000 then (r_X7_round ((f 3) - ((f 4) + (f 5)))) else ((r_X7_round ((f 3) - ((f 4) + (f 5)))) - 1000000) : Int32)) 4 (r_X7_round (((f 4) + (f 5)) + (((if (r_X7_round ((f 3) - ((f 4) + (f 5)))) < 500000 then (r_X7_round ((f 3) - ((f 4) + (f 5)))) else ((r_X7_round ((f 3) - ((f 4) + (f 5)))) - 1000000) : Int32) * (f 16)) / 1000)))) 5 (r_X7_limited ((f 5) + (((if (r_X7_round ((f 3) - ((f 4) + (f 5)))) < 500000 then (r_X7_round ((f 3) - ((f 4) + (f 5)))) else ((r_X7_round ((f 3) - ((f 4) + (f 5)))) - 1000000) : Int32) * (f 17)) / 1000)) 40000 70000)) 7 (if (r_X7_in (if (r_X7_round ((f 3) - ((f 4) + (f 5)))) < 500000 then (r_X7_round ((f 3) - ((f 4) + (f 5)))) else ((r_X7_round ((f 3) - ((f 4) + (f 5)))) - 1000000) : Int32) (-(f 18)) (f 18)) = 0 then 0 else ((f 7) + 1) : Int32)) : Nat → Int32)
set_option maxHeartbeats 4000000 in
set_option maxRecDepth 100000 in
theorem mX7_follow (l : Launch) (D : va_G) (cI cJ cZ cO : ClassId) (h0 : Nat) (h1 : Nat) (h2 : Nat) (h3 : Nat) (h4 : Nat) (h5 : Nat) (me : Int64) (tw : Int32) (f : Nat → Int32) : MV l yX7_follow wsX7_follow ({ frames := 1, cells := 0, slots := 0, locals := 22 } : Room) D (tysK cI cJ cZ cO) [.ref h0] [(h0, .inr (7, [.ref h1, .long me, .ref h2, .ref h3, .ref h4, .ref h5, .int tw])), (h1, .inl (cI, 165, .inl f))] (fun (_ : Unit) => [(h0, .inr (7, [.ref h1, .long me, .ref h2, .ref h3, .ref h4, .ref h5, .int tw])), (h1, .inl (cI, 165, .inl (a_h1_X7_follow f)))]) := by
  refine MV.of (cc := cX7_follow) (maxL := 3) (by decide) rfl (Nat.le_of_ble_eq_true rfl) ?_
  intro p e s m args below meth c A Q ls H locs B hin hS hP hD hl hret
  obtain ⟨hx, hb, hml, hown, hts, hK, hN, hA, hlocks⟩ := B
  have hi7 : ∀ w ∈ u_ws RX7 TX7 7, w ∈ wsX7_follow := by decide +kernel
  have hl : lv_has ls 3 [(0, .ref h0)] := hl
  refine lv_aload_n hx hb dX7_follow_0 rfl (lv_at hl 0 rfl) ?_
  refine va_get (D := D) (ci := 7) (v := .ref h1) (C := RX7) (T := TX7) (N := 7) hx hb hts hi7 hown hK hP 0 rfl rfl 0 (by decide) (hts (.fieldLink RX7 7 "GridInverterModel" "at" "[I") (by decide +kernel)) (fun _ h9 => h9) rfl dX7_follow_1 ?_
  refine lv_iconst (v := 4) hx hb dX7_follow_4 (by decide) ?_
  refine r_ald hx hb hK hP 1 0 rfl rfl 4 rfl (Nat.le_of_ble_eq_true rfl) (Nat.le_of_ble_eq_true rfl) (v := (f 4)) rfl dX7_follow_5 ?_
  refine lv_aload_n hx hb dX7_follow_6 rfl (lv_at hl 0 rfl) ?_
  refine va_get (D := D) (ci := 7) (v := .ref h1) (C := RX7) (T := TX7) (N := 7) hx hb hts hi7 hown hK hP 0 rfl rfl 0 (by decide) (hts (.fieldLink RX7 7 "GridInverterModel" "at" "[I") (by decide +kernel)) (fun _ h9 => h9) rfl dX7_follow_7 ?_
  refine lv_iconst (v := 5) hx hb dX7_follow_10 (by decide) ?_
  refine r_ald hx hb hK hP 1 0 rfl rfl 5 rfl (Nat.le_of_ble_eq_true rfl) (Nat.le_of_ble_eq_true rfl) (v := (f 5)) rfl dX7_follow_11 ?_
  refine lv_iadd hx hb dX7_follow_12 ?_
  refine lv_istore_n (lv' := [(1, .int ((f 4) + (f 5))), (0, .ref h0)]) hx hb dX7_follow_13 rfl hl (by decide) rfl (fun ls hl => ?_)
  refine lv_aload_n hx hb dX7_follow_14 rfl (lv_at hl 1 rfl) ?_
  refine va_get (D := D) (ci := 7) (v := .ref h1) (C := RX7) (T := TX7) (N := 7) hx hb hts hi7 hown hK hP 0 rfl rfl 0 (by decide) (hts (.fieldLink RX7 7 "GridInverterModel" "at" "[I") (by decide +kernel)) (fun _ h9 => h9) rfl dX7_follow_15 ?_
  refine lv_iconst (v := 1) hx hb dX7_follow_18 (by decide) ?_
  refine r_ald hx hb hK hP 1 0 rfl rfl 1 rfl (Nat.le_of_ble_eq_true rfl) (Nat.le_of_ble_eq_true rfl) (v := (f 1)) rfl dX7_follow_19 ?_
  refine lv_bipush (v := 20) hx hb dX7_follow_20 (by decide) ?_
  refine lv_icmp_lt (tgt := 162) hx hb dX7_follow_22 (by decide) (fun c2 => ?_) (fun c2 => ?_)
  · refine lv_aload_n hx hb dX7_follow_162 rfl (lv_at hl 1 rfl) ?_
    refine va_get (D := D) (ci := 7) (v := .ref h1) (C := RX7) (T := TX7) (N := 7) hx hb hts hi7 hown hK hP 0 rfl rfl 0 (by decide) (hts (.fieldLink RX7 7 "GridInverterModel" "at" "[I") (by decide +kernel)) (fun _ h9 => h9) rfl dX7_follow_163 ?_
    refine lv_bipush (v := 6) hx hb dX7_follow_166 (by decide) ?_
    refine lv_iconst (v := 0) hx hb dX7_follow_168 (by decide) ?_
    refine r_ast hx hb hK hP hD hS 1 0 rfl rfl 6 rfl (Nat.le_of_ble_eq_true rfl) (Nat.le_of_ble_eq_true rfl) dX7_follow_169 (fun H locs hP hD hS => ?_)
    have hP : va_P D vwCl [(h0, .inr (7, [.ref h1, .long me, .ref h2, .ref h3, .ref h4, .ref h5, .int tw])), (h1, .inl (cI, 165, .inl (upd f 6 0)))] H := hP
    have hD : va_D A [(h0, .inr (7, [.ref h1, .long me, .ref h2, .ref h3, .ref h4, .ref h5, .int tw])), (h1, .inl (cI, 165, .inl (upd f 6 0)))] := hD
    refine lv_aload_n hx hb dX7_follow_170 rfl (lv_at hl 1 rfl) ?_
    refine va_get (D := D) (ci := 7) (v := .ref h1) (C := RX7) (T := TX7) (N := 7) hx hb hts hi7 hown hK hP 0 rfl rfl 0 (by decide) (hts (.fieldLink RX7 7 "GridInverterModel" "at" "[I") (by decide +kernel)) (fun _ h9 => h9) rfl dX7_follow_171 ?_
    refine lv_iconst (v := 4) hx hb dX7_follow_174 (by decide) ?_
    refine lv_iload_n hx hb dX7_follow_175 rfl (lv_at hl 0 rfl) ?_
    refine call_i (wr := [(h0, .inr (7, [.ref h1, .long me, .ref h2, .ref h3, .ref h4, .ref h5, .int tw])), (h1, .inl (cI, 165, .inl (upd f 6 0)))]) (k := 0) (n := 0) (run_S (As := [.int ((f 4) + (f 5))]) (rest := [.int 4, .ref h1]) ⟨hx, hb, hml, hown, hts⟩ (mX7_round l D cI cJ cZ cO ((f 4) + (f 5)) H.size) (va_cwS 1 hts gX7_follow_X7_round rfl rfl rfl (by decide +kernel) ⟨Nat.le_of_ble_eq_true rfl, Nat.le_of_ble_eq_true rfl⟩) hK hN hP hD [] (by decide) rfl rfl rfl hl.1 (Nat.le_of_ble_eq_true rfl) dX7_follow_176 ⟨Nat.le_of_ble_eq_true rfl, Nat.le_of_ble_eq_true rfl⟩) hP hD hS hA [] [0, 1] rfl rfl (by decide) (by decide) (Nat.le_of_ble_eq_true rfl) (Nat.le_of_ble_eq_true rfl) (fun H locs hP hD hS => ?_)
    have hP : va_P D vwCl [(h0, .inr (7, [.ref h1, .long me, .ref h2, .ref h3, .ref h4, .ref h5, .int tw])), (h1, .inl (cI, 165, .inl (upd f 6 0)))] H := hP
    have hD : va_D A [(h0, .inr (7, [.ref h1, .long me, .ref h2, .ref h3, .ref h4, .ref h5, .int tw])), (h1, .inl (cI, 165, .inl (upd f 6 0)))] := hD
    refine lv_topi (fun x3 ex3 => ?_)
    refine r_ast hx hb hK hP hD hS 1 0 rfl rfl 4 rfl (Nat.le_of_ble_eq_true rfl) (Nat.le_of_ble_eq_true rfl) dX7_follow_179 (fun H locs hP hD hS => ?_)
    have hP : va_P D vwCl [(h0, .inr (7, [.ref h1, .long me, .ref h2, .ref h3, .ref h4, .ref h5, .int tw])), (h1, .inl (cI, 165, .inl (upd (upd f 6 0) 4 x3)))] H := hP
    have hD : va_D A [(h0, .inr (7, [.ref h1, .long me, .ref h2, .ref h3, .ref h4, .ref h5, .int tw])), (h1, .inl (cI, 165, .inl (upd (upd f 6 0) 4 x3)))] := hD
    refine lv_aload_n hx hb dX7_follow_180 rfl (lv_at hl 1 rfl) ?_
    refine va_get (D := D) (ci := 7) (v := .ref h1) (C := RX7) (T := TX7) (N := 7) hx hb hts hi7 hown hK hP 0 rfl rfl 0 (by decide) (hts (.fieldLink RX7 7 "GridInverterModel" "at" "[I") (by decide +kernel)) (fun _ h9 => h9) rfl dX7_follow_181 ?_
    refine lv_bipush (v := 7) hx hb dX7_follow_184 (by decide) ?_
    refine lv_iconst (v := 0) hx hb dX7_follow_186 (by decide) ?_
    refine r_ast hx hb hK hP hD hS 1 0 rfl rfl 7 rfl (Nat.le_of_ble_eq_true rfl) (Nat.le_of_ble_eq_true rfl) dX7_follow_187 (fun H locs hP hD hS => ?_)
    obtain ⟨x4, ex4⟩ : ∃ zz_, zz_ = (upd (upd (upd f 6 0) 4 x3) 7 0) := ⟨_, rfl⟩
    have hP : va_P D vwCl [(h0, .inr (7, [.ref h1, .long me, .ref h2, .ref h3, .ref h4, .ref h5, .int tw])), (h1, .inl (cI, 165, .inl x4))] H := by rw [ex4]; exact hP
    have hD : va_D A [(h0, .inr (7, [.ref h1, .long me, .ref h2, .ref h3, .ref h4, .ref h5, .int tw])), (h1, .inl (cI, 165, .inl x4))] := by rw [ex4]; exact hD
    exact hret () _ _ _ _ _ _ _ (by subst ex3; subst ex4; first | with_reducible rfl | (simp only [a_h1_X7_follow, if_pos c2]; done) | rfl) hP hD hS (Nat.le_of_ble_eq_true rfl) (Nat.le_of_ble_eq_true rfl) dX7_follow_188
  · refine lv_aload_n hx hb dX7_follow_25 rfl (lv_at hl 1 rfl) ?_
    refine va_get (D := D) (ci := 7) (v := .ref h1) (C := RX7) (T := TX7) (N := 7) hx hb hts hi7 hown hK hP 0 rfl rfl 0 (by decide) (hts (.fieldLink RX7 7 "GridInverterModel" "at" "[I") (by decide +kernel)) (fun _ h9 => h9) rfl dX7_follow_26 ?_
    refine lv_iconst (v := 3) hx hb dX7_follow_29 (by decide) ?_
    refine r_ald hx hb hK hP 1 0 rfl rfl 3 rfl (Nat.le_of_ble_eq_true rfl) (Nat.le_of_ble_eq_true rfl) (v := (f 3)) rfl dX7_follow_30 ?_
    refine lv_iload_n hx hb dX7_follow_31 rfl (lv_at hl 0 rfl) ?_
    refine lv_isub hx hb dX7_follow_32 ?_
    refine call_i (wr := [(h0, .inr (7, [.ref h1, .long me, .ref h2, .ref h3, .ref h4, .ref h5, .int tw])), (h1, .inl (cI, 165, .inl f))]) (k := 0) (n := 0) (run_S (As := [.int ((f 3) - ((f 4) + (f 5)))]) (rest := []) ⟨hx, hb, hml, hown, hts⟩ (mX7_round l D cI cJ cZ cO ((f 3) - ((f 4) + (f 5))) H.size) (va_cwS 1 hts gX7_follow_X7_round rfl rfl rfl (by decide +kernel) ⟨Nat.le_of_ble_eq_true rfl, Nat.le_of_ble_eq_true rfl⟩) hK hN hP hD [] (by decide) rfl rfl rfl hl.1 (Nat.le_of_ble_eq_true rfl) dX7_follow_33 ⟨Nat.le_of_ble_eq_true rfl, Nat.le_of_ble_eq_true rfl⟩) hP hD hS hA [] [0, 1] rfl rfl (by decide) (by decide) (Nat.le_of_ble_eq_true rfl) (Nat.le_of_ble_eq_true rfl) (fun H locs hP hD hS => ?_)
    have hP : va_P D vwCl [(h0, .inr (7, [.ref h1, .long me, .ref h2, .ref h3, .ref h4, .ref h5, .int tw])), (h1, .inl (cI, 165, .inl f))] H := hP
    have hD : va_D A [(h0, .inr (7, [.ref h1, .long me, .ref h2, .ref h3, .ref h4, .ref h5, .int tw])), (h1, .inl (cI, 165, .inl f))] := hD
    refine lv_topi (fun x5 ex5 => ?_)
    refine lv_istore_n (lv' := [(2, .int x5), (1, .int ((f 4) + (f 5))), (0, .ref h0)]) hx hb dX7_follow_36 rfl hl (by decide) rfl (fun ls hl => ?_)
    refine lv_iload_n hx hb dX7_follow_37 rfl (lv_at hl 0 rfl) ?_
    refine lv_ldc hx hb hown (hts (.constant RX7 42 (500000)) (by decide +kernel)) dX7_follow_38 ?_
    have K51 : ∀ (y8 : Int32) (H : Heap) (locs : List Loc) (ls : Array Slot), y8 = (if (r_X7_round ((f 3) - ((f 4) + (f 5)))) < 500000 then (r_X7_round ((f 3) - ((f 4) + (f 5)))) else ((r_X7_round ((f 3) - ((f 4) + (f 5)))) - 1000000) : Int32) → va_P D vwCl [(h0, .inr (7, [.ref h1, .long me, .ref h2, .ref h3, .ref h4, .ref h5, .int tw])), (h1, .inl (cI, 165, .inl f))] H → va_D A [(h0, .inr (7, [.ref h1, .long me, .ref h2, .ref h3, .ref h4, .ref h5, .int tw])), (h1, .inl (cI, 165, .inl f))] → va_S A s.heap H locs → lv_has ls 3 [(0, .ref h0), (1, .int ((f 4) + (f 5))), (2, .int x5)] → W p l e ({ frames := 1, cells := 0, slots := 0, locals := 22 } : Room) s m args below meth c H locs 0 0 Q (F0 m 51 ls [.int y8]) := by
      intro y8 H locs ls ey8 hP hD hS hl
      refine lv_istore_n (lv' := [(2, .int y8), (0, .ref h0), (1, .int ((f 4) + (f 5)))]) hx hb dX7_follow_51 rfl hl (by decide) rfl (fun ls hl => ?_)
      refine lv_aload_n hx hb dX7_follow_52 rfl (lv_at hl 1 rfl) ?_
      refine va_get (D := D) (ci := 7) (v := .ref h1) (C := RX7) (T := TX7) (N := 7) hx hb hts hi7 hown hK hP 0 rfl rfl 0 (by decide) (hts (.fieldLink RX7 7 "GridInverterModel" "at" "[I") (by decide +kernel)) (fun _ h9 => h9) rfl dX7_follow_53 ?_
      refine lv_bipush (v := 6) hx hb dX7_follow_56 (by decide) ?_
      refine lv_iload_n hx hb dX7_follow_58 rfl (lv_at hl 0 rfl) ?_
      refine r_ast hx hb hK hP hD hS 1 0 rfl rfl 6 rfl (Nat.le_of_ble_eq_true rfl) (Nat.le_of_ble_eq_true rfl) dX7_follow_59 (fun H locs hP hD hS => ?_)
      have hP : va_P D vwCl [(h0, .inr (7, [.ref h1, .long me, .ref h2, .ref h3, .ref h4, .ref h5, .int tw])), (h1, .inl (cI, 165, .inl (upd f 6 y8)))] H := hP
      have hD : va_D A [(h0, .inr (7, [.ref h1, .long me, .ref h2, .ref h3, .ref h4, .ref h5, .int tw])), (h1, .inl (cI, 165, .inl (upd f 6 y8)))] := hD
      refine lv_aload_n hx hb dX7_follow_60 rfl (lv_at hl 1 rfl) ?_
      refine va_get (D := D) (ci := 7) (v := .ref h1) (C := RX7) (T := TX7) (N := 7) hx hb hts hi7 hown hK hP 0 rfl rfl 0 (by decide) (hts (.fieldLink RX7 7 "GridInverterModel" "at" "[I") (by decide +kernel)) (fun _ h9 => h9) rfl dX7_follow_61 ?_
      refine lv_iconst (v := 4) hx hb dX7_follow_64 (by decide) ?_
      refine lv_iload_n hx hb dX7_follow_65 rfl (lv_at hl 2 rfl) ?_
      refine lv_iload_n hx hb dX7_follow_66 rfl (lv_at hl 0 rfl) ?_
      refine lv_aload_n hx hb dX7_follow_67 rfl (lv_at hl 1 rfl) ?_
      refine va_get (D := D) (ci := 7) (v := .ref h1) (C := RX7) (T := TX7) (N := 7) hx hb hts hi7 hown hK hP 0 rfl rfl 0 (by decide) (hts (.fieldLink RX7 7 "GridInverterModel" "at" "[I") (by decide +kernel)) (fun _ h9 => h9) rfl dX7_follow_68 ?_
      refine lv_bipush (v := 16) hx hb dX7_follow_71 (by decide) ?_
      refine r_ald hx hb hK hP 1 0 rfl rfl 16 rfl (Nat.le_of_ble_eq_true rfl) (Nat.le_of_ble_eq_true rfl) (v := (f 16)) (by rfl) dX7_follow_73 ?_
      refine lv_imul hx hb dX7_follow_74 ?_
      refine lv_sipush (v := 1000) hx hb dX7_follow_75 (by decide) ?_
      refine lv_idiv hx hb dX7_follow_78 (by decide) ?_
      refine lv_iadd hx hb dX7_follow_79 ?_
      refine lv_topi (fun x9 ex9 => ?_)
      refine call_i (wr := [(h0, .inr (7, [.ref h1, .long me, .ref h2, .ref h3, .ref h4, .ref h5, .int tw])), (h1, .inl (cI, 165, .inl (upd f 6 y8)))]) (k := 0) (n := 0) (run_S (As := [.int x9]) (rest := [.int 4, .ref h1]) ⟨hx, hb, hml, hown, hts⟩ (mX7_round l D cI cJ cZ cO x9 H.size) (va_cwS 1 hts gX7_follow_X7_round rfl rfl rfl (by decide +kernel) ⟨Nat.le_of_ble_eq_true rfl, Nat.le_of_ble_eq_true rfl⟩) hK hN hP hD [] (by decide) rfl rfl rfl hl.1 (Nat.le_of_ble_eq_true rfl) dX7_follow_80 ⟨Nat.le_of_ble_eq_true rfl, Nat.le_of_ble_eq_true rfl⟩) hP hD hS hA [] [0, 1] rfl rfl (by decide) (by decide) (Nat.le_of_ble_eq_true rfl) (Nat.le_of_ble_eq_true rfl) (fun H locs hP hD hS => ?_)
      have hP : va_P D vwCl [(h0, .inr (7, [.ref h1, .long me, .ref h2, .ref h3, .ref h4, .ref h5, .int tw])), (h1, .inl (cI, 165, .inl (upd f 6 y8)))] H := hP
      have hD : va_D A [(h0, .inr (7, [.ref h1, .long me, .ref h2, .ref h3, .ref h4, .ref h5, .int tw])), (h1, .inl (cI, 165, .inl (upd f 6 y8)))] := hD
      refine r_ast hx hb hK hP hD hS 1 0 rfl rfl 4 rfl (Nat.le_of_ble_eq_true rfl) (Nat.le_of_ble_eq_true rfl) dX7_follow_83 (fun H locs hP hD hS => ?_)
      obtain ⟨x10, ex10⟩ : ∃ zz_, zz_ = (upd (upd f 6 y8) 4 (r_X7_round x9)) := ⟨_, rfl⟩
      have hP : va_P D vwCl [(h0, .inr (7, [.ref h1, .long me, .ref h2, .ref h3, .ref h4, .ref h5, .int tw])), (h1, .inl (cI, 165, .inl x10))] H := by rw [ex10]; exact hP
      have hD : va_D A [(h0, .inr (7, [.ref h1, .long me, .ref h2, .ref h3, .ref h4, .ref h5, .int tw])), (h1, .inl (cI, 165, .inl x10))] := by rw [ex10]; exact hD
      refine lv_aload_n hx hb dX7_follow_84 rfl (lv_at hl 1 rfl) ?_
      refine va_get (D := D) (ci := 7) (v := .ref h1) (C := RX7) (T := TX7) (N := 7) hx hb hts hi7 hown hK hP 0 rfl rfl 0 (by decide) (hts (.fieldLink RX7 7 "GridInverterModel" "at" "[I") (by decide +kernel)) (fun _ h9 => h9) rfl dX7_follow_85 ?_
      refine lv_iconst (v := 5) hx hb dX7_follow_88 (by decide) ?_
      refine lv_aload_n hx hb dX7_follow_89 rfl (lv_at hl 1 rfl) ?_
      refine va_get (D := D) (ci := 7) (v := .ref h1) (C := RX7) (T := TX7) (N := 7) hx hb hts hi7 hown hK hP 0 rfl rfl 0 (by decide) (hts (.fieldLink RX7 7 "GridInverterModel" "at" "[I") (by decide +kernel)) (fun _ h9 => h9) rfl dX7_follow_90 ?_
      refine lv_iconst (v := 5) hx hb dX7_follow_93 (by decide) ?_
      refine r_ald hx hb hK hP 1 0 rfl rfl 5 rfl (Nat.le_of_ble_eq_true rfl) (Nat.le_of_ble_eq_true rfl) (v := (f 5)) (by subst ex10; rfl) dX7_follow_94 ?_
      refine lv_iload_n hx hb dX7_follow_95 rfl (lv_at hl 0 rfl) ?_
      refine lv_aload_n hx hb dX7_follow_96 rfl (lv_at hl 1 rfl) ?_
      refine va_get (D := D) (ci := 7) (v := .ref h1) (C := RX7) (T := TX7) (N := 7) hx hb hts hi7 hown hK hP 0 rfl rfl 0 (by decide) (hts (.fieldLink RX7 7 "GridInverterModel" "at" "[I") (by decide +kernel)) (fun _ h9 => h9) rfl dX7_follow_97 ?_
      refine lv_bipush (v := 17) hx hb dX7_follow_100 (by decide) ?_
      refine r_ald hx hb hK hP 1 0 rfl rfl 17 rfl (Nat.le_of_ble_eq_true rfl) (Nat.le_of_ble_eq_true rfl) (v := (f 17)) (by subst ex10; rfl) dX7_follow_102 ?_
      refine lv_imul hx hb dX7_follow_103 ?_
      refine lv_sipush (v := 1000) hx hb dX7_follow_104 (by decide) ?_
      refine lv_idiv hx hb dX7_follow_107 (by decide) ?_
      refine lv_iadd hx hb dX7_follow_108 ?_
      refine lv_topi (fun x11 ex11 => ?_)
      refine lv_ldc hx hb hown (hts (.constant RX7 55 (40000)) (by decide +kernel)) dX7_follow_109 ?_
      refine lv_ldc hx hb hown (hts (.constant RX7 56 (70000)) (by decide +kernel)) dX7_follow_111 ?_
      refine call_i (wr := [(h0, .inr (7, [.ref h1, .long me, .ref h2, .ref h3, .ref h4, .ref h5, .int tw])), (h1, .inl (cI, 165, .inl x10))]) (k := 0) (n := 0) (run_S (As := [.int x11, .int 40000, .int 70000]) (rest := [.int 5, .ref h1]) ⟨hx, hb, hml, hown, hts⟩ (mX7_limited l D cI cJ cZ cO x11 40000 70000 H.size) (va_cwS 3 hts gX7_follow_X7_limited rfl rfl rfl (by decide +kernel) ⟨Nat.le_of_ble_eq_true rfl, Nat.le_of_ble_eq_true rfl⟩) hK hN hP hD [] (by decide) rfl rfl rfl hl.1 (Nat.le_of_ble_eq_true rfl) dX7_follow_113 ⟨Nat.le_of_ble_eq_true rfl, Nat.le_of_ble_eq_true rfl⟩) hP hD hS hA [] [0, 1] rfl rfl (by decide) (by decide) (Nat.le_of_ble_eq_true rfl) (Nat.le_of_ble_eq_true rfl) (fun H locs hP hD hS => ?_)
      have hP : va_P D vwCl [(h0, .inr (7, [.ref h1, .long me, .ref h2, .ref h3, .ref h4, .ref h5, .int tw])), (h1, .inl (cI, 165, .inl x10))] H := hP
      have hD : va_D A [(h0, .inr (7, [.ref h1, .long me, .ref h2, .ref h3, .ref h4, .ref h5, .int tw])), (h1, .inl (cI, 165, .inl x10))] := hD
      refine lv_topi (fun x12 ex12 => ?_)
      refine r_ast hx hb hK hP hD hS 1 0 rfl rfl 5 rfl (Nat.le_of_ble_eq_true rfl) (Nat.le_of_ble_eq_true rfl) dX7_follow_116 (fun H locs hP hD hS => ?_)
      have hP : va_P D vwCl [(h0, .inr (7, [.ref h1, .long me, .ref h2, .ref h3, .ref h4, .ref h5, .int tw])), (h1, .inl (cI, 165, .inl (upd x10 5 x12)))] H := hP
      have hD : va_D A [(h0, .inr (7, [.ref h1, .long me, .ref h2, .ref h3, .ref h4, .ref h5, .int tw])), (h1, .inl (cI, 165, .inl (upd x10 5 x12)))] := hD
      refine lv_aload_n hx hb dX7_follow_117 rfl (lv_at hl 1 rfl) ?_
      refine va_get (D := D) (ci := 7) (v := .ref h1) (C := RX7) (T := TX7) (N := 7) hx hb hts hi7 hown hK hP 0 rfl rfl 0 (by decide) (hts (.fieldLink RX7 7 "GridInverterModel" "at" "[I") (by decide +kernel)) (fun _ h9 => h9) rfl dX7_follow_118 ?_
      refine lv_bipush (v := 7) hx hb dX7_follow_121 (by decide) ?_
      refine lv_iload_n hx hb dX7_follow_123 rfl (lv_at hl 0 rfl) ?_
      refine lv_aload_n hx hb dX7_follow_124 rfl (lv_at hl 1 rfl) ?_
      refine va_get (D := D) (ci := 7) (v := .ref h1) (C := RX7) (T := TX7) (N := 7) hx hb hts hi7 hown hK hP 0 rfl rfl 0 (by decide) (hts (.fieldLink RX7 7 "GridInverterModel" "at" "[I") (by decide +kernel)) (fun _ h9 => h9) rfl dX7_follow_125 ?_
      refine lv_bipush (v := 18) hx hb dX7_follow_128 (by decide) ?_
      refine r_ald hx hb hK hP 1 0 rfl rfl 18 rfl (Nat.le_of_ble_eq_true rfl) (Nat.le_of_ble_eq_true rfl) (v := (f 18)) (by subst ex10; rfl) dX7_follow_130 ?_
      refine lv_ineg hx hb dX7_follow_131 ?_
      refine lv_aload_n hx hb dX7_follow_132 rfl (lv_at hl 1 rfl) ?_
      refine va_get (D := D) (ci := 7) (v := .ref h1) (C := RX7) (T := TX7) (N := 7) hx hb hts hi7 hown hK hP 0 rfl rfl 0 (by decide) (hts (.fieldLink RX7 7 "GridInverterModel" "at" "[I") (by decide +kernel)) (fun _ h9 => h9) rfl dX7_follow_133 ?_
      refine lv_bipush (v := 18) hx hb dX7_follow_136 (by decide) ?_
      refine r_ald hx hb hK hP 1 0 rfl rfl 18 rfl (Nat.le_of_ble_eq_true rfl) (Nat.le_of_ble_eq_true rfl) (v := (f 18)) (by subst ex10; rfl) dX7_follow_138 ?_
      refine call_i (wr := [(h0, .inr (7, [.ref h1, .long me, .ref h2, .ref h3, .ref h4, .ref h5, .int tw])), (h1, .inl (cI, 165, .inl (upd x10 5 x12)))]) (k := 0) (n := 0) (run_S (As := [.int y8, .int (-(f 18)), .int (f 18)]) (rest := [.int 7, .ref h1]) ⟨hx, hb, hml, hown, hts⟩ (mX7_in l D cI cJ cZ cO y8 (-(f 18)) (f 18) H.size) (va_cwS 3 hts gX7_follow_X7_in rfl rfl rfl (by decide +kernel) ⟨Nat.le_of_ble_eq_true rfl, Nat.le_of_ble_eq_true rfl⟩) hK hN hP hD [] (by decide) rfl rfl rfl hl.1 (Nat.le_of_ble_eq_true rfl) dX7_follow_139 ⟨Nat.le_of_ble_eq_true rfl, Nat.le_of_ble_eq_true rfl⟩) hP hD hS hA [] [0, 1] rfl rfl (by decide) (by decide) (Nat.le_of_ble_eq_true rfl) (Nat.le_of_ble_eq_true rfl) (fun H locs hP hD hS => ?_)
      have hP : va_P D vwCl [(h0, .inr (7, [.ref h1, .long me, .ref h2, .ref h3, .ref h4, .ref h5, .int tw])), (h1, .inl (cI, 165, .inl (upd x10 5 x12)))] H := hP
      have hD : va_D A [(h0, .inr (7, [.ref h1, .long me, .ref h2, .ref h3, .ref h4, .ref h5, .int tw])), (h1, .inl (cI, 165, .inl (upd x10 5 x12)))] := hD
      refine lv_topi (fun x13 ex13 => ?_)
      have K158 : ∀ (y16 : Int32) (H : Heap) (locs : List Loc) (ls : Array Slot), y16 = (if (r_X7_in (if (r_X7_round ((f 3) - ((f 4) + (f 5)))) < 500000 then (r_X7_round ((f 3) - ((f 4) + (f 5)))) else ((r_X7_round ((f 3) - ((f 4) + (f 5)))) - 1000000) : Int32) (-(f 18)) (f 18)) = 0 then 0 else ((f 7) + 1) : Int32) → va_P D vwCl [(h0, .inr (7, [.ref h1, .long me, .ref h2, .ref h3, .ref h4, .ref h5, .int tw])), (h1, .inl (cI, 165, .inl (upd x10 5 x12)))] H → va_D A [(h0, .inr (7, [.ref h1, .long me, .ref h2, .ref h3, .ref h4, .ref h5, .int tw])), (h1, .inl (cI, 165, .inl (upd x10 5 x12)))] → va_S A s.heap H locs → lv_has ls 3 [(0, .ref h0), (1, .int ((f 4) + (f 5))), (2, .int y8)] → W p l e ({ frames := 1, cells := 0, slots := 0, locals := 22 } : Room) s m args below meth c H locs 0 0 Q (F0 m 158 ls [.int y16, .int 7, .ref h1]) := by
        intro y16 H locs ls ey16 hP hD hS hl
        refine r_ast hx hb hK hP hD hS 1 0 rfl rfl 7 rfl (Nat.le_of_ble_eq_true rfl) (Nat.le_of_ble_eq_true rfl) dX7_follow_158 (fun H locs hP hD hS => ?_)
        obtain ⟨x17, ex17⟩ : ∃ zz_, zz_ = (upd (upd x10 5 x12) 7 y16) := ⟨_, rfl⟩
        have hP : va_P D vwCl [(h0, .inr (7, [.ref h1, .long me, .ref h2, .ref h3, .ref h4, .ref h5, .int tw])), (h1, .inl (cI, 165, .inl x17))] H := by rw [ex17]; exact hP
        have hD : va_D A [(h0, .inr (7, [.ref h1, .long me, .ref h2, .ref h3, .ref h4, .ref h5, .int tw])), (h1, .inl (cI, 165, .inl x17))] := by rw [ex17]; exact hD
        refine lv_goto (tgt := 188) hx hb dX7_follow_159 (by decide) ?_
        exact hret () _ _ _ _ _ _ _ (by subst ex5; subst ey8; subst ex9; subst ex10; subst ex11; subst ex12; subst ex13; subst ey16; subst ex17; first | with_reducible rfl | (simp only [a_h1_X7_follow, if_neg c2]; done) | rfl) hP hD hS (Nat.le_of_ble_eq_true rfl) (Nat.le_of_ble_eq_true rfl) dX7_follow_188
      refine lv_if_eq (tgt := 157) hx hb dX7_follow_142 (by decide) (fun c15 => ?_) (fun c15 => ?_)
      · refine lv_iconst (v := 0) hx hb dX7_follow_157 (by decide) ?_
        exact K158 _ _ _ _ (by subst ex5; subst ey8; subst ex9; subst ex10; subst ex11; subst ex12; subst ex13; first | with_reducible rfl | (simp only [if_pos c15]; done) | rfl) (hP.sub [0, 1] rfl) (hD.sub [0, 1] (by decide) rfl) hS (lv_sub hl [1, 2, 0] rfl)
      · refine lv_aload_n hx hb dX7_follow_145 rfl (lv_at hl 1 rfl) ?_
        refine va_get (D := D) (ci := 7) (v := .ref h1) (C := RX7) (T := TX7) (N := 7) hx hb hts hi7 hown hK hP 0 rfl rfl 0 (by decide) (hts (.fieldLink RX7 7 "GridInverterModel" "at" "[I") (by decide +kernel)) (fun _ h9 => h9) rfl dX7_follow_146 ?_
        refine lv_bipush (v := 7) hx hb dX7_follow_149 (by decide) ?_
        refine r_ald hx hb hK hP 1 0 rfl rfl 7 rfl (Nat.le_of_ble_eq_true rfl) (Nat.le_of_ble_eq_true rfl) (v := (f 7)) (by subst ex10; rfl) dX7_follow_151 ?_
        refine lv_iconst (v := 1) hx hb dX7_follow_152 (by decide) ?_
        refine lv_iadd hx hb dX7_follow_153 ?_
        refine lv_goto (tgt := 158) hx hb dX7_follow_154 (by decide) ?_
        exact K158 _ _ _ _ (by subst ex5; subst ey8; subst ex9; subst ex10; subst ex11; subst ex12; subst ex13; first | with_reducible rfl | (simp only [if_neg c15]; done) | rfl) (hP.sub [0, 1] rfl) (hD.sub [0, 1] (by decide) rfl) hS (lv_sub hl [1, 2, 0] rfl)
    refine lv_icmp_lt (tgt := 50) hx hb dX7_follow_40 (by decide) (fun c7 => ?_) (fun c7 => ?_)
    · refine lv_iload_n hx hb dX7_follow_50 rfl (lv_at hl 0 rfl) ?_
      exact K51 _ _ _ _ (by subst ex5; first | with_reducible rfl | (simp only [if_pos c7]; done) | rfl) (hP.sub [0, 1] rfl) (hD.sub [0, 1] (by decide) rfl) hS (lv_sub hl [2, 1, 0] rfl)
    · refine lv_iload_n hx hb dX7_follow_43 rfl (lv_at hl 0 rfl) ?_
      refine lv_ldc hx hb hown (hts (.constant RX7 34 (1000000)) (by decide +kernel)) dX7_follow_44 ?_
      refine lv_isub hx hb dX7_follow_46 ?_
      refine lv_goto (tgt := 51) hx hb dX7_follow_47 (by decide) ?_
      exact K51 _ _ _ _ (by subst ex5; first | with_reducible rfl | (simp only [if_neg c7]; done) | rfl) (hP.sub [0, 1] rfl) (hD.sub [0, 1] (by decide) rfl) hS (lv_sub hl [2, 1, 0] rfl)

def r_X7_isViolated (f : Nat → Int32) (t : Nat) (i : Nat) : Int32 := (if (f (53 + i)) = 0 then (if (f (61 + i)) ≤ (f 1) then 0 else 1 : Int32) else (if (f (53 + i)) = 1 then (if (f 1) ≤ (f (61 + i)) then 0 else 1 : Int32) else (if (f (53 + i)) = 2 then (if (f (61 + i)) ≤ (f 5) then 0 else 1 : Int32) else (if (f (53 + i)) = 3 then (if (f 5) ≤ (f (61 + i)) then 0 else 1 : Int32) else (if (f (61 + i)) < ((f 5) - (f (33 + t % 20))) then 1 else (if (-((f 5) - (f (33 + t % 20)))) ≤ (f (61 + i)) then 0 else 1 : Int32) : Int32) : Int32) : Int32) : Int32) : Int32)
set_option maxHeartbeats 4000000 in
set_option maxRecDepth 100000 in
theorem mX7_isViolated (l : Launch) (D : va_G) (cI cJ cZ cO : ClassId) (h0 : Nat) (h1 : Nat) (h2 : Nat) (h3 : Nat) (h4 : Nat) (h5 : Nat) (me : Int64) (tw : Int32) (f : Nat → Int32) (p0 : Int32) (t : Nat) (i : Nat) (ht : f 0 = nI t) (ht2 : t < 2147483648) (hr : p0 = nI i) (hr8 : i < 8) : MI l yX7_isViolated wsX7_isViolated ({ frames := 0, cells := 0, slots := 0, locals := 0 } : Room) D (tysK cI cJ cZ cO) [.ref h0, .int p0] [(h0, .inr (7, [.ref h1, .long me, .ref h2, .ref h3, .ref h4, .ref h5, .int tw])), (h1, .inl (cI, 165, .inl f))] (r_X7_isViolated f t i) [(h0, .inr (7, [.ref h1, .long me, .ref h2, .ref h3, .ref h4, .ref h5, .int tw])), (h1, .inl (cI, 165, .inl f))] := by
  refine MI.of (cc := cX7_isViolated) (maxL := 4) (ret := .boolean) (by decide) rfl (Nat.le_of_ble_eq_true rfl) (by simp only [r_X7_isViolated]; first | rfl | (repeat' split) <;> rfl) ?_
  intro p e s m args below meth c A Q ls H locs B hS hP hD hl hret
  obtain ⟨hx, hb, hml, hown, hts, hK, hN, hA, hlocks⟩ := B
  have hi7 : ∀ w ∈ u_ws RX7 TX7 7, w ∈ wsX7_isViolated := by decide +kernel
  have hl : lv_has ls 4 [(0, .ref h0), (1, .int p0)] := hl
  refine lv_aload_n hx hb dX7_isViolated_0 rfl (lv_at hl 0 rfl) ?_
  refine va_get (D := D) (ci := 7) (v := .ref h1) (C := RX7) (T := TX7) (N := 7) hx hb hts hi7 hown hK hP 0 rfl rfl 0 (by decide) (hts (.fieldLink RX7 7 "GridInverterModel" "at" "[I") (by decide +kernel)) (fun _ h9 => h9) rfl dX7_isViolated_1 ?_
  refine lv_bipush (v := 61) hx hb dX7_isViolated_4 (by decide) ?_
  refine lv_iload_n hx hb dX7_isViolated_6 rfl (lv_at hl 1 rfl) ?_
  refine lv_iadd hx hb dX7_isViolated_7 ?_
  refine r_ald hx hb hK hP 1 0 rfl rfl (61 + i) (ix_add 61 hr) (by omega) (Nat.le_of_ble_eq_true rfl) (v := (f (61 + i))) rfl dX7_isViolated_8 ?_
  refine lv_istore_n (lv' := [(2, .int (f (61 + i))), (0, .ref h0), (1, .int p0)]) hx hb dX7_isViolated_9 rfl hl (by decide) rfl (fun ls hl => ?_)
  refine lv_aload_n hx hb dX7_isViolated_10 rfl (lv_at hl 1 rfl) ?_
  refine va_get (D := D) (ci := 7) (v := .ref h1) (C := RX7) (T := TX7) (N := 7) hx hb hts hi7 hown hK hP 0 rfl rfl 0 (by decide) (hts (.fieldLink RX7 7 "GridInverterModel" "at" "[I") (by decide +kernel)) (fun _ h9 => h9) rfl dX7_isViolated_11 ?_
  refine lv_iconst (v := 5) hx hb dX7_isViolated_14 (by decide) ?_
  refine r_ald hx hb hK hP 1 0 rfl rfl 5 rfl (Nat.le_of_ble_eq_true rfl) (Nat.le_of_ble_eq_true rfl) (v := (f 5)) rfl dX7_isViolated_15 ?_
  refine lv_aload_n hx hb dX7_isViolated_16 rfl (lv_at hl 1 rfl) ?_
  refine va_get (D := D) (ci := 7) (v := .ref h1) (C := RX7) (T := TX7) (N := 7) hx hb hts hi7 hown hK hP 0 rfl rfl 0 (by decide) (hts (.fieldLink RX7 7 "GridInverterModel" "at" "[I") (by decide +kernel)) (fun _ h9 => h9) rfl dX7_isViolated_17 ?_
  refine lv_bipush (v := 33) hx hb dX7_isViolated_20 (by decide) ?_
  refine lv_aload_n hx hb dX7_isViolated_22 rfl (lv_at hl 1 rfl) ?_
  refine va_get (D := D) (ci := 7) (v := .ref h1) (C := RX7) (T := TX7) (N := 7) hx hb hts hi7 hown hK hP 0 rfl rfl 0 (by decide) (hts (.fieldLink RX7 7 "GridInverterModel" "at" "[I") (by decide +kernel)) (fun _ h9 => h9) rfl dX7_isViolated_23 ?_
  refine lv_iconst (v := 0) hx hb dX7_isViolated_26 (by decide) ?_
  refine r_ald hx hb hK hP 1 0 rfl rfl 0 rfl (Nat.le_of_ble_eq_true rfl) (Nat.le_of_ble_eq_true rfl) (v := (f 0)) rfl dX7_isViolated_27 ?_
  refine lv_bipush (v := 20) hx hb dX7_isViolated_28 (by decide) ?_
  refine lv_irem hx hb dX7_isViolated_30 (by decide) ?_
  refine lv_iadd hx hb dX7_isViolated_31 ?_
  refine lv_topi (fun x1 ex1 => ?_)
  refine r_ald hx hb hK hP 1 0 rfl rfl (33 + t % 20) (by subst ex1; exact rem_ix 33 20 ht ht2 (Nat.le_of_ble_eq_true rfl) (Nat.le_of_ble_eq_true rfl)) (by omega) (Nat.le_of_ble_eq_true rfl) (v := (f (33 + t % 20))) rfl dX7_isViolated_32 ?_
  refine lv_isub hx hb dX7_isViolated_33 ?_
  refine lv_topi (fun x2 ex2 => ?_)
  refine lv_istore_n (lv' := [(3, .int x2), (2, .int (f (61 + i))), (0, .ref h0), (1, .int p0)]) hx hb dX7_isViolated_34 rfl hl (by decide) rfl (fun ls hl => ?_)
  refine lv_aload_n hx hb dX7_isViolated_35 rfl (lv_at hl 2 rfl) ?_
  refine va_get (D := D) (ci := 7) (v := .ref h1) (C := RX7) (T := TX7) (N := 7) hx hb hts hi7 hown hK hP 0 rfl rfl 0 (by decide) (hts (.fieldLink RX7 7 "GridInverterModel" "at" "[I") (by decide +kernel)) (fun _ h9 => h9) rfl dX7_isViolated_36 ?_
  refine lv_bipush (v := 53) hx hb dX7_isViolated_39 (by decide) ?_
  refine lv_iload_n hx hb dX7_isViolated_41 rfl (lv_at hl 3 rfl) ?_
  refine lv_iadd hx hb dX7_isViolated_42 ?_
  refine r_ald hx hb hK hP 1 0 rfl rfl (53 + i) (ix_add 53 hr) (by omega) (Nat.le_of_ble_eq_true rfl) (v := (f (53 + i))) rfl dX7_isViolated_43 ?_
  by_cases c3 : (f (53 + i)) = 0
  · refine lv_tableIn (tgt := 76) hx hb dX7_isViolated_44 (by rw [c3]; decide) (by rw [c3]; decide) (by rw [c3]; rfl) (by decide) ?_
    refine lv_aload_n hx hb dX7_isViolated_76 rfl (lv_at hl 2 rfl) ?_
    refine va_get (D := D) (ci := 7) (v := .ref h1) (C := RX7) (T := TX7) (N := 7) hx hb hts hi7 hown hK hP 0 rfl rfl 0 (by decide) (hts (.fieldLink RX7 7 "GridInverterModel" "at" "[I") (by decide +kernel)) (fun _ h9 => h9) rfl dX7_isViolated_77 ?_
    refine lv_iconst (v := 1) hx hb dX7_isViolated_80 (by decide) ?_
    refine r_ald hx hb hK hP 1 0 rfl rfl 1 rfl (Nat.le_of_ble_eq_true rfl) (Nat.le_of_ble_eq_true rfl) (v := (f 1)) rfl dX7_isViolated_81 ?_
    refine lv_iload_n hx hb dX7_isViolated_82 rfl (lv_at hl 1 rfl) ?_
    have K91 : ∀ (y6 : Int32) (H : Heap) (locs : List Loc) (ls : Array Slot), y6 = (if (f (61 + i)) ≤ (f 1) then 0 else 1 : Int32) → va_P D vwCl [(h0, .inr (7, [.ref h1, .long me, .ref h2, .ref h3, .ref h4, .ref h5, .int tw])), (h1, .inl (cI, 165, .inl f))] H → va_D A [(h0, .inr (7, [.ref h1, .long me, .ref h2, .ref h3, .ref h4, .ref h5, .int tw])), (h1, .inl (cI, 165, .inl f))] → va_S A s.heap H locs → lv_has ls 4 [(0, .ref h0), (1, .int p0), (2, .int (f (61 + i))), (3, .int x2)] → W p l e ({ frames := 0, cells := 0, slots := 0, locals := 0 } : Room) s m args below meth c H locs 0 0 Q (F0 m 91 ls [.int y6]) := by
      intro y6 H locs ls ey6 hP hD hS hl
      exact hret _ _ _ _ _ _ _ _ (by subst ex1; subst ex2; subst ey6; first | with_reducible rfl | (simp only [r_X7_isViolated, if_pos c3]; done) | rfl) (by subst ex1; subst ex2; subst ey6; first | with_reducible rfl | (simp only [r_X7_isViolated, if_pos c3]; done) | rfl) hP hD hS (Nat.le_of_ble_eq_true rfl) (Nat.le_of_ble_eq_true rfl) dX7_isViolated_91
    refine lv_icmp_ge (tgt := 90) hx hb dX7_isViolated_83 (by decide) (fun c5 => ?_) (fun c5 => ?_)
    · refine lv_iconst (v := 0) hx hb dX7_isViolated_90 (by decide) ?_
      exact K91 _ _ _ _ (by subst ex1; subst ex2; first | with_reducible rfl | (simp only [if_pos c5]; done) | rfl) (hP.sub [0, 1] rfl) (hD.sub [0, 1] (by decide) rfl) hS (lv_sub hl [2, 3, 1, 0] rfl)
    · refine lv_iconst (v := 1) hx hb dX7_isViolated_86 (by decide) ?_
      refine lv_goto (tgt := 91) hx hb dX7_isViolated_87 (by decide) ?_
      exact K91 _ _ _ _ (by subst ex1; subst ex2; first | with_reducible rfl | (simp only [if_neg c5]; done) | rfl) (hP.sub [0, 1] rfl) (hD.sub [0, 1] (by decide) rfl) hS (lv_sub hl [2, 3, 1, 0] rfl)
  · by_cases c7 : (f (53 + i)) = 1
    · refine lv_tableIn (tgt := 92) hx hb dX7_isViolated_44 (by rw [c7]; decide) (by rw [c7]; decide) (by rw [c7]; rfl) (by decide) ?_
      refine lv_aload_n hx hb dX7_isViolated_92 rfl (lv_at hl 2 rfl) ?_
      refine va_get (D := D) (ci := 7) (v := .ref h1) (C := RX7) (T := TX7) (N := 7) hx hb hts hi7 hown hK hP 0 rfl rfl 0 (by decide) (hts (.fieldLink RX7 7 "GridInverterModel" "at" "[I") (by decide +kernel)) (fun _ h9 => h9) rfl dX7_isViolated_93 ?_
      refine lv_iconst (v := 1) hx hb dX7_isViolated_96 (by decide) ?_
      refine r_ald hx hb hK hP 1 0 rfl rfl 1 rfl (Nat.le_of_ble_eq_true rfl) (Nat.le_of_ble_eq_true rfl) (v := (f 1)) rfl dX7_isViolated_97 ?_
      refine lv_iload_n hx hb dX7_isViolated_98 rfl (lv_at hl 1 rfl) ?_
      have K107 : ∀ (y10 : Int32) (H : Heap) (locs : List Loc) (ls : Array Slot), y10 = (if (f 1) ≤ (f (61 + i)) then 0 else 1 : Int32) → va_P D vwCl [(h0, .inr (7, [.ref h1, .long me, .ref h2, .ref h3, .ref h4, .ref h5, .int tw])), (h1, .inl (cI, 165, .inl f))] H → va_D A [(h0, .inr (7, [.ref h1, .long me, .ref h2, .ref h3, .ref h4, .ref h5, .int tw])), (h1, .inl (cI, 165, .inl f))] → va_S A s.heap H locs → lv_has ls 4 [(0, .ref h0), (1, .int p0), (2, .int (f (61 + i))), (3, .int x2)] → W p l e ({ frames := 0, cells := 0, slots := 0, locals := 0 } : Room) s m args below meth c H locs 0 0 Q (F0 m 107 ls [.int y10]) := by
        intro y10 H locs ls ey10 hP hD hS hl
        exact hret _ _ _ _ _ _ _ _ (by subst ex1; subst ex2; subst ey10; first | with_reducible rfl | (simp only [r_X7_isViolated, if_neg c3, if_pos c7]; done) | rfl) (by subst ex1; subst ex2; subst ey10; first | with_reducible rfl | (simp only [r_X7_isViolated, if_neg c3, if_pos c7]; done) | rfl) hP hD hS (Nat.le_of_ble_eq_true rfl) (Nat.le_of_ble_eq_true rfl) dX7_isViolated_107
      refine lv_icmp_le (tgt := 106) hx hb dX7_isViolated_99 (by decide) (fun c9 => ?_) (fun c9 => ?_)
      · refine lv_iconst (v := 0) hx hb dX7_isViolated_106 (by decide) ?_
        exact K107 _ _ _ _ (by subst ex1; subst ex2; first | with_reducible rfl | (simp only [if_pos c9]; done) | rfl) (hP.sub [0, 1] rfl) (hD.sub [0, 1] (by decide) rfl) hS (lv_sub hl [2, 3, 1, 0] rfl)
      · refine lv_iconst (v := 1) hx hb dX7_isViolated_102 (by decide) ?_
        refine lv_goto (tgt := 107) hx hb dX7_isViolated_103 (by decide) ?_
        exact K107 _ _ _ _ (by subst ex1; subst ex2; first | with_reducible rfl | (simp only [if_neg c9]; done) | rfl) (hP.sub [0, 1] rfl) (hD.sub [0, 1] (by decide) rfl) hS (lv_sub hl [2, 3, 1, 0] rfl)
    · by_cases c11 : (f (53 + i)) = 2
      · refine lv_tableIn (tgt := 108) hx hb dX7_isViolated_44 (by rw [c11]; decide) (by rw [c11]; decide) (by rw [c11]; rfl) (by decide) ?_
        refine lv_aload_n hx hb dX7_isViolated_108 rfl (lv_at hl 2 rfl) ?_
        refine va_get (D := D) (ci := 7) (v := .ref h1) (C := RX7) (T := TX7) (N := 7) hx hb hts hi7 hown hK hP 0 rfl rfl 0 (by decide) (hts (.fieldLink RX7 7 "GridInverterModel" "at" "[I") (by decide +kernel)) (fun _ h9 => h9) rfl dX7_isViolated_109 ?_
        refine lv_iconst (v := 5) hx hb dX7_isViolated_112 (by decide) ?_
        refine r_ald hx hb hK hP 1 0 rfl rfl 5 rfl (Nat.le_of_ble_eq_true rfl) (Nat.le_of_ble_eq_true rfl) (v := (f 5)) rfl dX7_isViolated_113 ?_
        refine lv_iload_n hx hb dX7_isViolated_114 rfl (lv_at hl 1 rfl) ?_
        have K123 : ∀ (y14 : Int32) (H : Heap) (locs : List Loc) (ls : Array Slot), y14 = (if (f (61 + i)) ≤ (f 5) then 0 else 1 : Int32) → va_P D vwCl [(h0, .inr (7, [.ref h1, .long me, .ref h2, .ref h3, .ref h4, .ref h5, .int tw])), (h1, .inl (cI, 165, .inl f))] H → va_D A [(h0, .inr (7, [.ref h1, .long me, .ref h2, .ref h3, .ref h4, .ref h5, .int tw])), (h1, .inl (cI, 165, .inl f))] → va_S A s.heap H locs → lv_has ls 4 [(0, .ref h0), (1, .int p0), (2, .int (f (61 + i))), (3, .int x2)] → W p l e ({ frames := 0, cells := 0, slots := 0, locals := 0 } : Room) s m args below meth c H locs 0 0 Q (F0 m 123 ls [.int y14]) := by
          intro y14 H locs ls ey14 hP hD hS hl
          exact hret _ _ _ _ _ _ _ _ (by subst ex1; subst ex2; subst ey14; first | with_reducible rfl | (simp only [r_X7_isViolated, if_neg c3, if_neg c7, if_pos c11]; done) | rfl) (by subst ex1; subst ex2; subst ey14; first | with_reducible rfl | (simp only [r_X7_isViolated, if_neg c3, if_neg c7, if_pos c11]; done) | rfl) hP hD hS (Nat.le_of_ble_eq_true rfl) (Nat.le_of_ble_eq_true rfl) dX7_isViolated_123
        refine lv_icmp_ge (tgt := 122) hx hb dX7_isViolated_115 (by decide) (fun c13 => ?_) (fun c13 => ?_)
        · refine lv_iconst (v := 0) hx hb dX7_isViolated_122 (by decide) ?_
          exact K123 _ _ _ _ (by subst ex1; subst ex2; first | with_reducible rfl | (simp only [if_pos c13]; done) | rfl) (hP.sub [0, 1] rfl) (hD.sub [0, 1] (by decide) rfl) hS (lv_sub hl [2, 3, 1, 0] rfl)
        · refine lv_iconst (v := 1) hx hb dX7_isViolated_118 (by decide) ?_
          refine lv_goto (tgt := 123) hx hb dX7_isViolated_119 (by decide) ?_
          exact K123 _ _ _ _ (by subst ex1; subst ex2; first | with_reducible rfl | (simp only [if_neg c13]; done) | rfl) (hP.sub [0, 1] rfl) (hD.sub [0, 1] (by decide) rfl) hS (lv_sub hl [2, 3, 1, 0] rfl)
      · by_cases c15 : (f (53 + i)) = 3
        · refine lv_tableIn (tgt := 124) hx hb dX7_isViolated_44 (by rw [c15]; decide) (by rw [c15]; decide) (by rw [c15]; rfl) (by decide) ?_
          refine lv_aload_n hx hb dX7_isViolated_124 rfl (lv_at hl 2 rfl) ?_
          refine va_get (D := D) (ci := 7) (v := .ref h1) (C := RX7) (T := TX7) (N := 7) hx hb hts hi7 hown hK hP 0 rfl rfl 0 (by decide) (hts (.fieldLink RX7 7 "GridInverterModel" "at" "[I") (by decide +kernel)) (fun _ h9 => h9) rfl dX7_isViolated_125 ?_
          refine lv_iconst (v := 5) hx hb dX7_isViolated_128 (by decide) ?_
          refine r_ald hx hb hK hP 1 0 rfl rfl 5 rfl (Nat.le_of_ble_eq_true rfl) (Nat.le_of_ble_eq_true rfl) (v := (f 5)) rfl dX7_isViolated_129 ?_
          refine lv_iload_n hx hb dX7_isViolated_130 rfl (lv_at hl 1 rfl) ?_
          have K139 : ∀ (y18 : Int32) (H : Heap) (locs : List Loc) (ls : Array Slot), y18 = (if (f 5) ≤ (f (61 + i)) then 0 else 1 : Int32) → va_P D vwCl [(h0, .inr (7, [.ref h1, .long me, .ref h2, .ref h3, .ref h4, .ref h5, .int tw])), (h1, .inl (cI, 165, .inl f))] H → va_D A [(h0, .inr (7, [.ref h1, .long me, .ref h2, .ref h3, .ref h4, .ref h5, .int tw])), (h1, .inl (cI, 165, .inl f))] → va_S A s.heap H locs → lv_has ls 4 [(0, .ref h0), (1, .int p0), (2, .int (f (61 + i))), (3, .int x2)] → W p l e ({ frames := 0, cells := 0, slots := 0, locals := 0 } : Room) s m args below meth c H locs 0 0 Q (F0 m 139 ls [.int y18]) := by
            intro y18 H locs ls ey18 hP hD hS hl
            exact hret _ _ _ _ _ _ _ _ (by subst ex1; subst ex2; subst ey18; first | with_reducible rfl | (simp only [r_X7_isViolated, if_neg c3, if_neg c7, if_neg c11, if_pos c15]; done) | rfl) (by subst ex1; subst ex2; subst ey18; first | with_reducible rfl | (simp only [r_X7_isViolated, if_neg c3, if_neg c7, if_neg c11, if_pos c15]; done) | rfl) hP hD hS (Nat.le_of_ble_eq_true rfl) (Nat.le_of_ble_eq_true rfl) dX7_isViolated_139
          refine lv_icmp_le (tgt := 138) hx hb dX7_isViolated_131 (by decide) (fun c17 => ?_) (fun c17 => ?_)
          · refine lv_iconst (v := 0) hx hb dX7_isViolated_138 (by decide) ?_
            exact K139 _ _ _ _ (by subst ex1; subst ex2; first | with_reducible rfl | (simp only [if_pos c17]; done) | rfl) (hP.sub [0, 1] rfl) (hD.sub [0, 1] (by decide) rfl) hS (lv_sub hl [2, 3, 1, 0] rfl)
          · refine lv_iconst (v := 1) hx hb dX7_isViolated_134 (by decide) ?_
            refine lv_goto (tgt := 139) hx hb dX7_isViolated_135 (by decide) ?_
            exact K139 _ _ _ _ (by subst ex1; subst ex2; first | with_reducible rfl | (simp only [if_neg c17]; done) | rfl) (hP.sub [0, 1] rfl) (hD.sub [0, 1] (by decide) rfl) hS (lv_sub hl [2, 3, 1, 0] rfl)
        · refine lv_tableOut (tgt := 140) hx hb dX7_isViolated_44 (by have z0 := i32_neK 0 c3 (Nat.le_of_ble_eq_true rfl); have z1 := i32_neK 1 c7 (Nat.le_of_ble_eq_true rfl); have z2 := i32_neK 2 c11 (Nat.le_of_ble_eq_true rfl); have z3 := i32_neK 3 c15 (Nat.le_of_ble_eq_true rfl); omega) (by decide) ?_
          refine lv_iload_n hx hb dX7_isViolated_140 rfl (lv_at hl 0 rfl) ?_
          refine lv_iload_n hx hb dX7_isViolated_141 rfl (lv_at hl 1 rfl) ?_
          have K156 : ∀ (y21 : Int32) (H : Heap) (locs : List Loc) (ls : Array Slot), y21 = (if (f (61 + i)) < ((f 5) - (f (33 + t % 20))) then 1 else (if (-((f 5) - (f (33 + t % 20)))) ≤ (f (61 + i)) then 0 else 1 : Int32) : Int32) → va_P D vwCl [(h0, .inr (7, [.ref h1, .long me, .ref h2, .ref h3, .ref h4, .ref h5, .int tw])), (h1, .inl (cI, 165, .inl f))] H → va_D A [(h0, .inr (7, [.ref h1, .long me, .ref h2, .ref h3, .ref h4, .ref h5, .int tw])), (h1, .inl (cI, 165, .inl f))] → va_S A s.heap H locs → lv_has ls 4 [(0, .ref h0), (1, .int p0), (2, .int (f (61 + i))), (3, .int x2)] → W p l e ({ frames := 0, cells := 0, slots := 0, locals := 0 } : Room) s m args below meth c H locs 0 0 Q (F0 m 156 ls [.int y21]) := by
            intro y21 H locs ls ey21 hP hD hS hl
            exact hret _ _ _ _ _ _ _ _ (by subst ex1; subst ex2; subst ey21; first | with_reducible rfl | (simp only [r_X7_isViolated, if_neg c3, if_neg c7, if_neg c11, if_neg c15]; done) | rfl) (by subst ex1; subst ex2; subst ey21; first | with_reducible rfl | (simp only [r_X7_isViolated, if_neg c3, if_neg c7, if_neg c11, if_neg c15]; done) | rfl) hP hD hS (Nat.le_of_ble_eq_true rfl) (Nat.le_of_ble_eq_true rfl) dX7_isViolated_156
          refine lv_icmp_gt (tgt := 151) hx hb dX7_isViolated_142 (by decide) (fun c20 => ?_) (fun c20 => ?_)
          · refine lv_iconst (v := 1) hx hb dX7_isViolated_151 (by decide) ?_
            refine lv_goto (tgt := 156) hx hb dX7_isViolated_152 (by decide) ?_
            exact K156 _ _ _ _ (by subst ex1; subst ex2; first | with_reducible rfl | (simp only [if_pos c20]; done) | rfl) (hP.sub [0, 1] rfl) (hD.sub [0, 1] (by decide) rfl) hS (lv_sub hl [2, 3, 1, 0] rfl)
          · refine lv_iload_n hx hb dX7_isViolated_145 rfl (lv_at hl 0 rfl) ?_
            refine lv_ineg hx hb dX7_isViolated_146 ?_
            refine lv_iload_n hx hb dX7_isViolated_147 rfl (lv_at hl 1 rfl) ?_
            refine lv_icmp_le (tgt := 155) hx hb dX7_isViolated_148 (by decide) (fun c23 => ?_) (fun c23 => ?_)
            · refine lv_iconst (v := 0) hx hb dX7_isViolated_155 (by decide) ?_
              exact K156 _ _ _ _ (by subst ex1; subst ex2; first | with_reducible rfl | (simp only [if_neg c20, if_pos c23]; done) | rfl) (hP.sub [0, 1] rfl) (hD.sub [0, 1] (by decide) rfl) hS (lv_sub hl [2, 3, 1, 0] rfl)
            · refine lv_iconst (v := 1) hx hb dX7_isViolated_151 (by decide) ?_
              refine lv_goto (tgt := 156) hx hb dX7_isViolated_152 (by decide) ?_
              exact K156 _ _ _ _ (by subst ex1; subst ex2; first | with_reducible rfl | (simp only [if_neg c20, if_neg c23]; done) | rfl) (hP.sub [0, 1] rfl) (hD.sub [0, 1] (by decide) rfl) hS (lv_sub hl [2, 3, 1, 0] rfl)

def a_h1_X7_trip (f : Nat → Int32) (p0 : Int32) (q : Nat) : Nat → Int32 := (a_h1_X7_note (upd (upd (upd f 20 0) 9 0) 8 0) p0 q)
set_option maxHeartbeats 4000000 in
set_option maxRecDepth 100000 in
theorem mX7_trip (l : Launch) (D : va_G) (cI cJ cZ cO : ClassId) (h0 : Nat) (h1 : Nat) (h2 : Nat) (h3 : Nat) (h4 : Nat) (h5 : Nat) (me : Int64) (tw : Int32) (f : Nat → Int32) (p0 : Int32) (q : Nat) (hq : f 32 = nI q) (hq2 : q < 2147483648) : MV l yX7_trip wsX7_trip ({ frames := 1, cells := 0, slots := 0, locals := 21 } : Room) D (tysK cI cJ cZ cO) [.ref h0, .int p0] [(h0, .inr (7, [.ref h1, .long me, .ref h2, .ref h3, .ref h4, .ref h5, .int tw])), (h1, .inl (cI, 165, .inl f))] (fun (_ : Unit) => [(h0, .inr (7, [.ref h1, .long me, .ref h2, .ref h3, .ref h4, .ref h5, .int tw])), (h1, .inl (cI, 165, .inl (a_h1_X7_trip f p0 q)))]) := by
  refine MV.of (cc := cX7_trip) (maxL := 2) (by decide) rfl (Nat.le_of_ble_eq_true rfl) ?_
  intro p e s m args below meth c A Q ls H locs B hin hS hP hD hl hret
  obtain ⟨hx, hb, hml, hown, hts, hK, hN, hA, hlocks⟩ := B
  have hi7 : ∀ w ∈ u_ws RX7 TX7 7, w ∈ wsX7_trip := by decide +kernel
  have hl : lv_has ls 2 [(0, .ref h0), (1, .int p0)] := hl
  refine lv_aload_n hx hb dX7_trip_0 rfl (lv_at hl 0 rfl) ?_
  refine va_get (D := D) (ci := 7) (v := .ref h1) (C := RX7) (T := TX7) (N := 7) hx hb hts hi7 hown hK hP 0 rfl rfl 0 (by decide) (hts (.fieldLink RX7 7 "GridInverterModel" "at" "[I") (by decide +kernel)) (fun _ h9 => h9) rfl dX7_trip_1 ?_
  refine lv_bipush (v := 20) hx hb dX7_trip_4 (by decide) ?_
  refine lv_iconst (v := 0) hx hb dX7_trip_6 (by decide) ?_
  refine r_ast hx hb hK hP hD hS 1 0 rfl rfl 20 rfl (Nat.le_of_ble_eq_true rfl) (Nat.le_of_ble_eq_true rfl) dX7_trip_7 (fun H locs hP hD hS => ?_)
  have hP : va_P D vwCl [(h0, .inr (7, [.ref h1, .long me, .ref h2, .ref h3, .ref h4, .ref h5, .int tw])), (h1, .inl (cI, 165, .inl (upd f 20 0)))] H := hP
  have hD : va_D A [(h0, .inr (7, [.ref h1, .long me, .ref h2, .ref h3, .ref h4, .ref h5, .int tw])), (h1, .inl (cI, 165, .inl (upd f 20 0)))] := hD
  refine lv_aload_n hx hb dX7_trip_8 rfl (lv_at hl 0 rfl) ?_
  refine va_get (D := D) (ci := 7) (v := .ref h1) (C := RX7) (T := TX7) (N := 7) hx hb hts hi7 hown hK hP 0 rfl rfl 0 (by decide) (hts (.fieldLink RX7 7 "GridInverterModel" "at" "[I") (by decide +kernel)) (fun _ h9 => h9) rfl dX7_trip_9 ?_
  refine lv_bipush (v := 9) hx hb dX7_trip_12 (by decide) ?_
  refine lv_iconst (v := 0) hx hb dX7_trip_14 (by decide) ?_
  refine r_ast hx hb hK hP hD hS 1 0 rfl rfl 9 rfl (Nat.le_of_ble_eq_true rfl) (Nat.le_of_ble_eq_true rfl) dX7_trip_15 (fun H locs hP hD hS => ?_)
  have hP : va_P D vwCl [(h0, .inr (7, [.ref h1, .long me, .ref h2, .ref h3, .ref h4, .ref h5, .int tw])), (h1, .inl (cI, 165, .inl (upd (upd f 20 0) 9 0)))] H := hP
  have hD : va_D A [(h0, .inr (7, [.ref h1, .long me, .ref h2, .ref h3, .ref h4, .ref h5, .int tw])), (h1, .inl (cI, 165, .inl (upd (upd f 20 0) 9 0)))] := hD
  refine lv_aload_n hx hb dX7_trip_16 rfl (lv_at hl 0 rfl) ?_
  refine va_get (D := D) (ci := 7) (v := .ref h1) (C := RX7) (T := TX7) (N := 7) hx hb hts hi7 hown hK hP 0 rfl rfl 0 (by decide) (hts (.fieldLink RX7 7 "GridInverterModel" "at" "[I") (by decide +kernel)) (fun _ h9 => h9) rfl dX7_trip_17 ?_
  refine lv_bipush (v := 8) hx hb dX7_trip_20 (by decide) ?_
  refine lv_iconst (v := 0) hx hb dX7_trip_22 (by decide) ?_
  refine r_ast hx hb hK hP hD hS 1 0 rfl rfl 8 rfl (Nat.le_of_ble_eq_true rfl) (Nat.le_of_ble_eq_true rfl) dX7_trip_23 (fun H locs hP hD hS => ?_)
  obtain ⟨x1, ex1⟩ : ∃ zz_, zz_ = (upd (upd (upd f 20 0) 9 0) 8 0) := ⟨_, rfl⟩
  have hP : va_P D vwCl [(h0, .inr (7, [.ref h1, .long me, .ref h2, .ref h3, .ref h4, .ref h5, .int tw])), (h1, .inl (cI, 165, .inl x1))] H := by rw [ex1]; exact hP
  have hD : va_D A [(h0, .inr (7, [.ref h1, .long me, .ref h2, .ref h3, .ref h4, .ref h5, .int tw])), (h1, .inl (cI, 165, .inl x1))] := by rw [ex1]; exact hD
  refine lv_aload_n hx hb dX7_trip_24 rfl (lv_at hl 0 rfl) ?_
  refine lv_iload_n hx hb dX7_trip_25 rfl (lv_at hl 1 rfl) ?_
  refine call_v (wr := []) (k := 0) (n := 0) (run_V (As := [.int p0]) (rest := []) ⟨hx, hb, hml, hown, hts⟩ (mX7_note l D cI cJ cZ cO h0 h1 h2 h3 h4 h5 me tw x1 p0 q (by first | exact hq | (subst_vars; exact hq)) hq2 H.size) (cwV 1 hts gX7_trip_X7_note rfl rfl rfl (by decide +kernel) ⟨Nat.le_of_ble_eq_true rfl, Nat.le_of_ble_eq_true rfl⟩) hK hN hP hD [0, 1] (by decide) rfl 7 0 rfl rfl rfl rfl rfl hl.1 (Nat.le_of_ble_eq_true rfl) dX7_trip_26 ⟨Nat.le_of_ble_eq_true rfl, Nat.le_of_ble_eq_true rfl⟩) hP hD hS hA [0, 1] [] rfl rfl (by decide) (by decide) (Nat.le_of_ble_eq_true rfl) (Nat.le_of_ble_eq_true rfl) (fun _ H locs hP hD hS => ?_)
  have hP : va_P D vwCl [(h0, .inr (7, [.ref h1, .long me, .ref h2, .ref h3, .ref h4, .ref h5, .int tw])), (h1, .inl (cI, 165, .inl (a_h1_X7_note x1 p0 q)))] H := hP
  have hD : va_D A [(h0, .inr (7, [.ref h1, .long me, .ref h2, .ref h3, .ref h4, .ref h5, .int tw])), (h1, .inl (cI, 165, .inl (a_h1_X7_note x1 p0 q)))] := hD
  exact hret () _ _ _ _ _ _ _ (by subst ex1; first | with_reducible rfl | (simp only [a_h1_X7_trip]; done) | rfl) hP hD hS (Nat.le_of_ble_eq_true rfl) (Nat.le_of_ble_eq_true rfl) dX7_trip_29
