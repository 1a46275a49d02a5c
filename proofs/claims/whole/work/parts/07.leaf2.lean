def r_X3_changeUntil (lf : Int32) (pf : Nat → Int32) (t : Nat) : Int32 := (if 0 ≤ (lf - (pf (t % 20))) then (lf - (pf (t % 20))) else (-(lf - (pf (t % 20)))) : Int32)
def a_h1_X3_changeUntil (lf : Int32) (pf : Nat → Int32) (t : Nat) : Nat → Int32 := (upd pf (t % 20) lf)
set_option maxHeartbeats 4000000 in
set_option maxRecDepth 100000 in
theorem mX3_changeUntil (l : Launch) (D : va_G) (cI cJ cZ cO : ClassId) (h0 : Nat) (h1 : Nat) (la : Int32) (lf : Int32) (le : Int32) (kp : Int32) (ki : Int32) (to : Int32) (lt : Int32) (lk : Int32) (pf : Nat → Int32) (p0 : Int32) (t : Nat) (ht : p0 = nI t) (ht2 : t < 2147483648) : MI l yX3_changeUntil wsX3_changeUntil ({ frames := 1, cells := 0, slots := 0, locals := 22 } : Room) D (tysK cI cJ cZ cO) [.ref h0, .int p0] [(h0, .inr (3, [.int la, .int lf, .int le, .int kp, .int ki, .int to, .int lt, .int lk, .ref h1])), (h1, .inl (cI, 20, .inl pf))] (r_X3_changeUntil lf pf t) [(h0, .inr (3, [.int la, .int lf, .int le, .int kp, .int ki, .int to, .int lt, .int lk, .ref h1])), (h1, .inl (cI, 20, .inl (a_h1_X3_changeUntil lf pf t)))] := by
  refine MI.of (cc := cX3_changeUntil) (maxL := 4) (ret := .int) (by decide) rfl (Nat.le_of_ble_eq_true rfl) rfl ?_
  intro p e s m args below meth c A Q ls H locs B hS hP hD hl hret
  obtain ⟨hx, hb, hml, hown, hts, hK, hN, hA, hlocks⟩ := B
  have hi3 : ∀ w ∈ u_ws RX3 TX3 9, w ∈ wsX3_changeUntil := by decide +kernel
  have hl : lv_has ls 4 [(0, .ref h0), (1, .int p0)] := hl
  refine lv_iload_n hx hb dX3_changeUntil_0 rfl (lv_at hl 1 rfl) ?_
  refine lv_bipush (v := 20) hx hb dX3_changeUntil_1 (by decide) ?_
  refine call_i (wr := [(h0, .inr (3, [.int la, .int lf, .int le, .int kp, .int ki, .int to, .int lt, .int lk, .ref h1])), (h1, .inl (cI, 20, .inl pf))]) (k := 0) (n := 0) (run_S (As := [.int p0, .int 20]) (rest := []) ⟨hx, hb, hml, hown, hts⟩ (mJ9_floorMod_7cf53 l D cI cJ cZ cO p0 20 (by decide) H.size) (va_cwS 2 hts gX3_changeUntil_J9_floorMod_7cf53 rfl rfl rfl (by decide +kernel) ⟨Nat.le_of_ble_eq_true rfl, Nat.le_of_ble_eq_true rfl⟩) hK hN hP hD [] (by decide) rfl rfl rfl hl.1 (Nat.le_of_ble_eq_true rfl) dX3_changeUntil_3 ⟨Nat.le_of_ble_eq_true rfl, Nat.le_of_ble_eq_true rfl⟩) hP hD hS hA [] [0, 1] rfl rfl (by decide) (by decide) (Nat.le_of_ble_eq_true rfl) (Nat.le_of_ble_eq_true rfl) (fun H locs hP hD hS => ?_)
  have hP : va_P D vwCl [(h0, .inr (3, [.int la, .int lf, .int le, .int kp, .int ki, .int to, .int lt, .int lk, .ref h1])), (h1, .inl (cI, 20, .inl pf))] H := hP
  have hD : va_D A [(h0, .inr (3, [.int la, .int lf, .int le, .int kp, .int ki, .int to, .int lt, .int lk, .ref h1])), (h1, .inl (cI, 20, .inl pf))] := hD
  refine lv_topi (fun x1 ex1 => ?_)
  refine lv_istore_n (lv' := [(2, .int x1), (0, .ref h0), (1, .int p0)]) hx hb dX3_changeUntil_6 rfl hl (by decide) rfl (fun ls hl => ?_)
  refine lv_aload_n hx hb dX3_changeUntil_7 rfl (lv_at hl 1 rfl) ?_
  refine va_get (D := D) (ci := 3) (v := .int lf) (C := RX3) (T := TX3) (N := 9) hx hb hts hi3 hown hK hP 0 rfl rfl 1 (by decide) (hts (.fieldLink RX3 16 "GridInverter$Loop" "frequency" "I") (by decide +kernel)) (fun _ h9 => h9) rfl dX3_changeUntil_8 ?_
  refine lv_aload_n hx hb dX3_changeUntil_11 rfl (lv_at hl 1 rfl) ?_
  refine va_get (D := D) (ci := 3) (v := .ref h1) (C := RX3) (T := TX3) (N := 9) hx hb hts hi3 hown hK hP 0 rfl rfl 8 (by decide) (hts (.fieldLink RX3 37 "GridInverter$Loop" "past" "[I") (by decide +kernel)) (fun _ h9 => h9) rfl dX3_changeUntil_12 ?_
  refine lv_iload_n hx hb dX3_changeUntil_15 rfl (lv_at hl 0 rfl) ?_
  refine r_ald hx hb hK hP 1 0 rfl rfl (t % 20) (ex1.trans (fm_mod 20 ht ht2 (Nat.le_of_ble_eq_true rfl) (Nat.le_of_ble_eq_true rfl))) (Nat.mod_lt t (Nat.le_of_ble_eq_true rfl)) (Nat.le_of_ble_eq_true rfl) (v := (pf (t % 20))) rfl dX3_changeUntil_16 ?_
  refine lv_isub hx hb dX3_changeUntil_17 ?_
  refine lv_istore_n (lv' := [(3, .int (lf - (pf (t % 20)))), (2, .int x1), (0, .ref h0), (1, .int p0)]) hx hb dX3_changeUntil_18 rfl hl (by decide) rfl (fun ls hl => ?_)
  refine lv_aload_n hx hb dX3_changeUntil_19 rfl (lv_at hl 2 rfl) ?_
  refine va_get (D := D) (ci := 3) (v := .ref h1) (C := RX3) (T := TX3) (N := 9) hx hb hts hi3 hown hK hP 0 rfl rfl 8 (by decide) (hts (.fieldLink RX3 37 "GridInverter$Loop" "past" "[I") (by decide +kernel)) (fun _ h9 => h9) rfl dX3_changeUntil_20 ?_
  refine lv_iload_n hx hb dX3_changeUntil_23 rfl (lv_at hl 1 rfl) ?_
  refine lv_aload_n hx hb dX3_changeUntil_24 rfl (lv_at hl 2 rfl) ?_
  refine va_get (D := D) (ci := 3) (v := .int lf) (C := RX3) (T := TX3) (N := 9) hx hb hts hi3 hown hK hP 0 rfl rfl 1 (by decide) (hts (.fieldLink RX3 16 "GridInverter$Loop" "frequency" "I") (by decide +kernel)) (fun _ h9 => h9) rfl dX3_changeUntil_25 ?_
  refine r_ast hx hb hK hP hD hS 1 0 rfl rfl (t % 20) (ex1.trans (fm_mod 20 ht ht2 (Nat.le_of_ble_eq_true rfl) (Nat.le_of_ble_eq_true rfl))) (Nat.mod_lt t (Nat.le_of_ble_eq_true rfl)) (Nat.le_of_ble_eq_true rfl) dX3_changeUntil_28 (fun H locs hP hD hS => ?_)
  have hP : va_P D vwCl [(h0, .inr (3, [.int la, .int lf, .int le, .int kp, .int ki, .int to, .int lt, .int lk, .ref h1])), (h1, .inl (cI, 20, .inl (upd pf (t % 20) lf)))] H := hP
  have hD : va_D A [(h0, .inr (3, [.int la, .int lf, .int le, .int kp, .int ki, .int to, .int lt, .int lk, .ref h1])), (h1, .inl (cI, 20, .inl (upd pf (t % 20) lf)))] := hD
  refine lv_iload_n hx hb dX3_changeUntil_29 rfl (lv_at hl 0 rfl) ?_
  have K39 : ∀ (y4 : Int32) (H : Heap) (locs : List Loc) (ls : Array Slot), y4 = (if 0 ≤ (lf - (pf (t % 20))) then (lf - (pf (t % 20))) else (-(lf - (pf (t % 20)))) : Int32) → va_P D vwCl [(h0, .inr (3, [.int la, .int lf, .int le, .int kp, .int ki, .int to, .int lt, .int lk, .ref h1])), (h1, .inl (cI, 20, .inl (upd pf (t % 20) lf)))] H → va_D A [(h0, .inr (3, [.int la, .int lf, .int le, .int kp, .int ki, .int to, .int lt, .int lk, .ref h1])), (h1, .inl (cI, 20, .inl (upd pf (t % 20) lf)))] → va_S A s.heap H locs → lv_has ls 4 [(0, .ref h0), (1, .int p0), (2, .int x1), (3, .int (lf - (pf (t % 20))))] → W p l e ({ frames := 1, cells := 0, slots := 0, locals := 22 } : Room) s m args below meth c H locs 0 0 Q (F0 m 39 ls [.int y4]) := by
    intro y4 H locs ls ey4 hP hD hS hl
    exact hret _ _ _ _ _ _ _ _ (by subst ex1; subst ey4; first | with_reducible rfl | (simp only [r_X3_changeUntil, a_h1_X3_changeUntil]; done) | rfl) (by subst ex1; subst ey4; first | with_reducible rfl | (simp only [r_X3_changeUntil, a_h1_X3_changeUntil]; done) | rfl) hP hD hS (Nat.le_of_ble_eq_true rfl) (Nat.le_of_ble_eq_true rfl) dX3_changeUntil_39
  refine lv_if_ge (tgt := 38) hx hb dX3_changeUntil_30 (by decide) (fun c3 => ?_) (fun c3 => ?_)
  · refine lv_iload_n hx hb dX3_changeUntil_38 rfl (lv_at hl 0 rfl) ?_
    exact K39 _ _ _ _ (by subst ex1; first | with_reducible rfl | (simp only [if_pos c3]; done) | rfl) (hP.sub [0, 1] rfl) (hD.sub [0, 1] (by decide) rfl) hS (lv_sub hl [2, 3, 1, 0] rfl)
  · refine lv_iload_n hx hb dX3_changeUntil_33 rfl (lv_at hl 0 rfl) ?_
    refine lv_ineg hx hb dX3_changeUntil_34 ?_
    refine lv_goto (tgt := 39) hx hb dX3_changeUntil_35 (by decide) ?_
    exact K39 _ _ _ _ (by subst ex1; first | with_reducible rfl | (simp only [if_neg c3]; done) | rfl) (hP.sub [0, 1] rfl) (hD.sub [0, 1] (by decide) rfl) hS (lv_sub hl [2, 3, 1, 0] rfl)

set_option maxHeartbeats 4000000 in
set_option maxRecDepth 100000 in
theorem mX6_copyRow_8 (l : Launch) (D : va_G) (cI cJ cZ cO : ClassId) (h0 : Nat) (h1 : Nat) (f : Nat → Int32) (f2 : Nat → Int32) : MV l yX6_copyRow wsX6_copyRow ({ frames := 1, cells := 0, slots := 0, locals := 68 } : Room) D (tysK cI cJ cZ cO) [.ref h0, .ref h1] [(h0, .inl (cI, 8, .inl f)), (h1, .inl (cI, 8, .inl f2))] (fun (_ : Unit) => [(h0, .inl (cI, 8, .inl f)), (h1, .inl (cI, 8, .inl f))]) := by
  refine MV.of (cc := cX6_copyRow) (maxL := 2) (by decide) rfl (Nat.le_of_ble_eq_true rfl) ?_
  intro p e s m args below meth c A Q ls H locs B hin hS hP hD hl hret
  obtain ⟨hx, hb, hml, hown, hts, hK, hN, hA, hlocks⟩ := B
  have hl : lv_has ls 2 [(0, .ref h0), (1, .ref h1)] := hl
  refine lv_aload_n hx hb dX6_copyRow_0 rfl (lv_at hl 0 rfl) ?_
  refine lv_iconst (v := 0) hx hb dX6_copyRow_1 (by decide) ?_
  refine lv_aload_n hx hb dX6_copyRow_2 rfl (lv_at hl 1 rfl) ?_
  refine lv_iconst (v := 0) hx hb dX6_copyRow_3 (by decide) ?_
  refine lv_aload_n hx hb dX6_copyRow_4 rfl (lv_at hl 0 rfl) ?_
  refine va_alen hx hb hK hP 0 0 rfl rfl (v := 8) rfl dX6_copyRow_5 ?_
  refine lv_aload_n hx hb dX6_copyRow_6 rfl (lv_at hl 1 rfl) ?_
  refine va_alen hx hb hK hP 1 0 rfl rfl (v := 8) rfl dX6_copyRow_7 ?_
  refine va_mmin hx hb (hml.trans hl.1.symm) hown (hts (.methodLink RX6 253 Lib.Math.min.name) (by decide +kernel)) (hts (.static Lib.Math.min.name) (by decide +kernel)) (hts (.initialized "java/lang/Math") (by decide +kernel)) (hts (.code Lib.Math.min.name Lib.Math.min.code 2 (some .int)) (by decide +kernel)) (Nat.le_of_ble_eq_true rfl) (Nat.le_of_ble_eq_true rfl) (Nat.le_of_ble_eq_true rfl) (Nat.le_of_ble_eq_true rfl) dX6_copyRow_8 ?_
  refine lv_topi (fun x1 ex1 => ?_)
  refine r_copy hx hb (hml.trans hl.1.symm) hown (hts (.methodLink RX6 262 arraycopyName) (by decide +kernel)) (hts (.native arraycopyName) (by decide +kernel)) (hts (.static arraycopyName) (by decide +kernel)) (hts (.initialized "java/lang/System") (by decide +kernel)) hK hP hD hS 0 1 0 0 rfl rfl rfl rfl (by subst ex1; rfl) (Nat.le_of_ble_eq_true rfl) (Nat.le_of_ble_eq_true rfl) (Nat.le_of_ble_eq_true rfl) dX6_copyRow_11 (fun H locs hP hD hS => ?_)
  have hP : va_P D vwCl [(h0, .inl (cI, 8, .inl f)), (h1, .inl (cI, 8, .inl f))] H := hP
  have hD : va_D A [(h0, .inl (cI, 8, .inl f)), (h1, .inl (cI, 8, .inl f))] := hD
  exact hret () _ _ _ _ _ _ _ (by subst ex1; first | with_reducible rfl | (simp only []; done) | rfl) hP hD hS (Nat.le_of_ble_eq_true rfl) (Nat.le_of_ble_eq_true rfl) dX6_copyRow_14

set_option maxHeartbeats 4000000 in
set_option maxRecDepth 100000 in
theorem mX6_copyRow_20 (l : Launch) (D : va_G) (cI cJ cZ cO : ClassId) (h0 : Nat) (h1 : Nat) (f : Nat → Int32) (f2 : Nat → Int32) : MV l yX6_copyRow wsX6_copyRow ({ frames := 1, cells := 0, slots := 0, locals := 68 } : Room) D (tysK cI cJ cZ cO) [.ref h0, .ref h1] [(h0, .inl (cI, 20, .inl f)), (h1, .inl (cI, 20, .inl f2))] (fun (_ : Unit) => [(h0, .inl (cI, 20, .inl f)), (h1, .inl (cI, 20, .inl f))]) := by
  refine MV.of (cc := cX6_copyRow) (maxL := 2) (by decide) rfl (Nat.le_of_ble_eq_true rfl) ?_
  intro p e s m args below meth c A Q ls H locs B hin hS hP hD hl hret
  obtain ⟨hx, hb, hml, hown, hts, hK, hN, hA, hlocks⟩ := B
  have hl : lv_has ls 2 [(0, .ref h0), (1, .ref h1)] := hl
  refine lv_aload_n hx hb dX6_copyRow_0 rfl (lv_at hl 0 rfl) ?_
  refine lv_iconst (v := 0) hx hb dX6_copyRow_1 (by decide) ?_
  refine lv_aload_n hx hb dX6_copyRow_2 rfl (lv_at hl 1 rfl) ?_
  refine lv_iconst (v := 0) hx hb dX6_copyRow_3 (by decide) ?_
  refine lv_aload_n hx hb dX6_copyRow_4 rfl (lv_at hl 0 rfl) ?_
  refine va_alen hx hb hK hP 0 0 rfl rfl (v := 20) rfl dX6_copyRow_5 ?_
  refine lv_aload_n hx hb dX6_copyRow_6 rfl (lv_at hl 1 rfl) ?_
  refine va_alen hx hb hK hP 1 0 rfl rfl (v := 20) rfl dX6_copyRow_7 ?_
  refine va_mmin hx hb (hml.trans hl.1.symm) hown (hts (.methodLink RX6 253 Lib.Math.min.name) (by decide +kernel)) (hts (.static Lib.Math.min.name) (by decide +kernel)) (hts (.initialized "java/lang/Math") (by decide +kernel)) (hts (.code Lib.Math.min.name Lib.Math.min.code 2 (some .int)) (by decide +kernel)) (Nat.le_of_ble_eq_true rfl) (Nat.le_of_ble_eq_true rfl) (Nat.le_of_ble_eq_true rfl) (Nat.le_of_ble_eq_true rfl) dX6_copyRow_8 ?_
  refine lv_topi (fun x1 ex1 => ?_)
  refine r_copy hx hb (hml.trans hl.1.symm) hown (hts (.methodLink RX6 262 arraycopyName) (by decide +kernel)) (hts (.native arraycopyName) (by decide +kernel)) (hts (.static arraycopyName) (by decide +kernel)) (hts (.initialized "java/lang/System") (by decide +kernel)) hK hP hD hS 0 1 0 0 rfl rfl rfl rfl (by subst ex1; rfl) (Nat.le_of_ble_eq_true rfl) (Nat.le_of_ble_eq_true rfl) (Nat.le_of_ble_eq_true rfl) dX6_copyRow_11 (fun H locs hP hD hS => ?_)
  have hP : va_P D vwCl [(h0, .inl (cI, 20, .inl f)), (h1, .inl (cI, 20, .inl f))] H := hP
  have hD : va_D A [(h0, .inl (cI, 20, .inl f)), (h1, .inl (cI, 20, .inl f))] := hD
  exact hret () _ _ _ _ _ _ _ (by subst ex1; first | with_reducible rfl | (simp only []; done) | rfl) hP hD hS (Nat.le_of_ble_eq_true rfl) (Nat.le_of_ble_eq_true rfl) dX6_copyRow_14

set_option maxHeartbeats 4000000 in
set_option maxRecDepth 100000 in
theorem mX6_copyRow_40 (l : Launch) (D : va_G) (cI cJ cZ cO : ClassId) (h0 : Nat) (h1 : Nat) (f : Nat → Int32) (f2 : Nat → Int32) : MV l yX6_copyRow wsX6_copyRow ({ frames := 1, cells := 0, slots := 0, locals := 68 } : Room) D (tysK cI cJ cZ cO) [.ref h0, .ref h1] [(h0, .inl (cI, 40, .inl f)), (h1, .inl (cI, 40, .inl f2))] (fun (_ : Unit) => [(h0, .inl (cI, 40, .inl f)), (h1, .inl (cI, 40, .inl f))]) := by
  refine MV.of (cc := cX6_copyRow) (maxL := 2) (by decide) rfl (Nat.le_of_ble_eq_true rfl) ?_
  intro p e s m args below meth c A Q ls H locs B hin hS hP hD hl hret
  obtain ⟨hx, hb, hml, hown, hts, hK, hN, hA, hlocks⟩ := B
  have hl : lv_has ls 2 [(0, .ref h0), (1, .ref h1)] := hl
  refine lv_aload_n hx hb dX6_copyRow_0 rfl (lv_at hl 0 rfl) ?_
  refine lv_iconst (v := 0) hx hb dX6_copyRow_1 (by decide) ?_
  refine lv_aload_n hx hb dX6_copyRow_2 rfl (lv_at hl 1 rfl) ?_
  refine lv_iconst (v := 0) hx hb dX6_copyRow_3 (by decide) ?_
  refine lv_aload_n hx hb dX6_copyRow_4 rfl (lv_at hl 0 rfl) ?_
  refine va_alen hx hb hK hP 0 0 rfl rfl (v := 40) rfl dX6_copyRow_5 ?_
  refine lv_aload_n hx hb dX6_copyRow_6 rfl (lv_at hl 1 rfl) ?_
  refine va_alen hx hb hK hP 1 0 rfl rfl (v := 40) rfl dX6_copyRow_7 ?_
  refine va_mmin hx hb (hml.trans hl.1.symm) hown (hts (.methodLink RX6 253 Lib.Math.min.name) (by decide +kernel)) (hts (.static Lib.Math.min.name) (by decide +kernel)) (hts (.initialized "java/lang/Math") (by decide +kernel)) (hts (.code Lib.Math.min.name Lib.Math.min.code 2 (some .int)) (by decide +kernel)) (Nat.le_of_ble_eq_true rfl) (Nat.le_of_ble_eq_true rfl) (Nat.le_of_ble_eq_true rfl) (Nat.le_of_ble_eq_true rfl) dX6_copyRow_8 ?_
  refine lv_topi (fun x1 ex1 => ?_)
  refine r_copy hx hb (hml.trans hl.1.symm) hown (hts (.methodLink RX6 262 arraycopyName) (by decide +kernel)) (hts (.native arraycopyName) (by decide +kernel)) (hts (.static arraycopyName) (by decide +kernel)) (hts (.initialized "java/lang/System") (by decide +kernel)) hK hP hD hS 0 1 0 0 rfl rfl rfl rfl (by subst ex1; rfl) (Nat.le_of_ble_eq_true rfl) (Nat.le_of_ble_eq_true rfl) (Nat.le_of_ble_eq_true rfl) dX6_copyRow_11 (fun H locs hP hD hS => ?_)
  have hP : va_P D vwCl [(h0, .inl (cI, 40, .inl f)), (h1, .inl (cI, 40, .inl f))] H := hP
  have hD : va_D A [(h0, .inl (cI, 40, .inl f)), (h1, .inl (cI, 40, .inl f))] := hD
  exact hret () _ _ _ _ _ _ _ (by subst ex1; first | with_reducible rfl | (simp only []; done) | rfl) hP hD hS (Nat.le_of_ble_eq_true rfl) (Nat.le_of_ble_eq_true rfl) dX6_copyRow_14

def r_X4_append (rn : Int32) : Int32 := (if (r_X6_outside rn 0 7) = 0 then rn else (-1) : Int32)
def v_h0_size_X4_append (rn : Int32) : Int32 := (if (r_X6_outside rn 0 7) = 0 then (rn + 1) else rn : Int32)
def a_h1_X4_append (rn : Int32) (kn : Nat → Int32) (p0 : Int32) (z : Nat) : Nat → Int32 := (if (r_X6_outside rn 0 7) = 0 then (upd kn z p0) else kn : Nat → Int32)
def a_h2_X4_append (rn : Int32) (th : Nat → Int32) (p1 : Int32) (z : Nat) : Nat → Int32 := (if (r_X6_outside rn 0 7) = 0 then (upd th z p1) else th : Nat → Int32)
def a_h3_X4_append (rn : Int32) (du : Nat → Int32) (p2 : Int32) (z : Nat) : Nat → Int32 := (if (r_X6_outside rn 0 7) = 0 then (upd du z p2) else du : Nat → Int32)
def a_h4_X4_append (rn : Int32) (ct : Nat → Int32) (z : Nat) : Nat → Int32 := (if (r_X6_outside rn 0 7) = 0 then (upd ct z 0) else ct : Nat → Int32)
set_option maxHeartbeats 4000000 in
set_option maxRecDepth 100000 in
theorem mX4_append (l : Launch) (D : va_G) (cI cJ cZ cO : ClassId) (h0 : Nat) (h1 : Nat) (h2 : Nat) (h3 : Nat) (h4 : Nat) (rn : Int32) (kn : Nat → Int32) (th : Nat → Int32) (du : Nat → Int32) (ct : Nat → Int32) (p0 : Int32) (p1 : Int32) (p2 : Int32) (z : Nat) (hz : rn = nI z) (hz8 : z ≤ 8) : MI l yX4_append wsX4_append ({ frames := 1, cells := 0, slots := 0, locals := 22 } : Room) D (tysK cI cJ cZ cO) [.ref h0, .int p0, .int p1, .int p2] [(h0, .inr (4, [.int rn, .ref h1, .ref h2, .ref h3, .ref h4])), (h1, .inl (cI, 8, .inl kn)), (h2, .inl (cI, 8, .inl th)), (h3, .inl (cI, 8, .inl du)), (h4, .inl (cI, 8, .inl ct))] (r_X4_append rn) [(h0, .inr (4, [.int (v_h0_size_X4_append rn), .ref h1, .ref h2, .ref h3, .ref h4])), (h1, .inl (cI, 8, .inl (a_h1_X4_append rn kn p0 z))), (h2, .inl (cI, 8, .inl (a_h2_X4_append rn th p1 z))), (h3, .inl (cI, 8, .inl (a_h3_X4_append rn du p2 z))), (h4, .inl (cI, 8, .inl (a_h4_X4_append rn ct z)))] := by
  refine MI.of (cc := cX4_append) (maxL := 5) (ret := .int) (by decide) rfl (Nat.le_of_ble_eq_true rfl) rfl ?_
  intro p e s m args below meth c A Q ls H locs B hS hP hD hl hret
  obtain ⟨hx, hb, hml, hown, hts, hK, hN, hA, hlocks⟩ := B
  have hi4 : ∀ w ∈ u_ws RX4 TX4 5, w ∈ wsX4_append := by decide +kernel
  have hl : lv_has ls 5 [(0, .ref h0), (1, .int p0), (2, .int p1), (3, .int p2)] := hl
  refine lv_aload_n hx hb dX4_append_0 rfl (lv_at hl 0 rfl) ?_
  refine va_get (D := D) (ci := 4) (v := .int rn) (C := RX4) (T := TX4) (N := 5) hx hb hts hi4 hown hK hP 0 rfl rfl 0 (by decide) (hts (.fieldLink RX4 9 "GridInverter$Rules" "size" "I") (by decide +kernel)) (fun _ h9 => h9) rfl dX4_append_1 ?_
  refine lv_istore (lv' := [(4, .int rn), (0, .ref h0), (1, .int p0), (2, .int p1), (3, .int p2)]) hx hb dX4_append_4 hl (by decide) rfl (fun ls hl => ?_)
  refine lv_iload hx hb dX4_append_6 (lv_at hl 0 rfl) ?_
  refine lv_iconst (v := 0) hx hb dX4_append_8 (by decide) ?_
  refine lv_bipush (v := 7) hx hb dX4_append_9 (by decide) ?_
  refine call_i (wr := [(h0, .inr (4, [.int rn, .ref h1, .ref h2, .ref h3, .ref h4])), (h1, .inl (cI, 8, .inl kn)), (h2, .inl (cI, 8, .inl th)), (h3, .inl (cI, 8, .inl du)), (h4, .inl (cI, 8, .inl ct))]) (k := 0) (n := 0) (run_SN (As := [.int rn, .int 0, .int 7]) (rest := []) ⟨hx, hb, hml, hown, hts⟩ (mX6_outside l D cI cJ cZ cO rn 0 7 H.size) ⟨va_cnB 3 hts ggX4_append_X6_outside rfl rfl rfl hN.2.2.2.2.2.1 (hts (.initialized RX6) (by decide +kernel)) (by decide +kernel) ⟨Nat.le_of_ble_eq_true rfl, Nat.le_of_ble_eq_true rfl⟩, (hts (.static yX6_outside) (by decide +kernel))⟩ hK hN hP hD [] (by decide) rfl rfl rfl hl.1 (Nat.le_of_ble_eq_true rfl) dX4_append_11 ⟨Nat.le_of_ble_eq_true rfl, Nat.le_of_ble_eq_true rfl⟩) hP hD hS hA [] [0, 1, 2, 3, 4] rfl rfl (by decide) (by decide) (Nat.le_of_ble_eq_true rfl) (Nat.le_of_ble_eq_true rfl) (fun H locs hP hD hS => ?_)
  have hP : va_P D vwCl [(h0, .inr (4, [.int rn, .ref h1, .ref h2, .ref h3, .ref h4])), (h1, .inl (cI, 8, .inl kn)), (h2, .inl (cI, 8, .inl th)), (h3, .inl (cI, 8, .inl du)), (h4, .inl (cI, 8, .inl ct))] H := hP
  have hD : va_D A [(h0, .inr (4, [.int rn, .ref h1, .ref h2, .ref h3, .ref h4])), (h1, .inl (cI, 8, .inl kn)), (h2, .inl (cI, 8, .inl th)), (h3, .inl (cI, 8, .inl du)), (h4, .inl (cI, 8, .inl ct))] := hD
  refine lv_if_eq (tgt := 19) hx hb dX4_append_14 (by decide) (fun c2 => ?_) (fun c2 => ?_)
  · refine lv_aload_n hx hb dX4_append_19 rfl (lv_at hl 1 rfl) ?_
    refine va_get (D := D) (ci := 4) (v := .ref h1) (C := RX4) (T := TX4) (N := 5) hx hb hts hi4 hown hK hP 0 rfl rfl 1 (by decide) (hts (.fieldLink RX4 15 "GridInverter$Rules" "kinds" "[I") (by decide +kernel)) (fun _ h9 => h9) rfl dX4_append_20 ?_
    refine lv_iload hx hb dX4_append_23 (lv_at hl 0 rfl) ?_
    refine lv_iload_n hx hb dX4_append_25 rfl (lv_at hl 2 rfl) ?_
    refine r_ast hx hb hK hP hD hS 1 0 rfl rfl z hz (out_lt hz hz8 c2) (Nat.le_of_ble_eq_true rfl) dX4_append_26 (fun H locs hP hD hS => ?_)
    have hP : va_P D vwCl [(h0, .inr (4, [.int rn, .ref h1, .ref h2, .ref h3, .ref h4])), (h1, .inl (cI, 8, .inl (upd kn z p0))), (h2, .inl (cI, 8, .inl th)), (h3, .inl (cI, 8, .inl du)), (h4, .inl (cI, 8, .inl ct))] H := hP
    have hD : va_D A [(h0, .inr (4, [.int rn, .ref h1, .ref h2, .ref h3, .ref h4])), (h1, .inl (cI, 8, .inl (upd kn z p0))), (h2, .inl (cI, 8, .inl th)), (h3, .inl (cI, 8, .inl du)), (h4, .inl (cI, 8, .inl ct))] := hD
    refine lv_aload_n hx hb dX4_append_27 rfl (lv_at hl 1 rfl) ?_
    refine va_get (D := D) (ci := 4) (v := .ref h2) (C := RX4) (T := TX4) (N := 5) hx hb hts hi4 hown hK hP 0 rfl rfl 2 (by decide) (hts (.fieldLink RX4 19 "GridInverter$Rules" "thresholds" "[I") (by decide +kernel)) (fun _ h9 => h9) rfl dX4_append_28 ?_
    refine lv_iload hx hb dX4_append_31 (lv_at hl 0 rfl) ?_
    refine lv_iload_n hx hb dX4_append_33 rfl (lv_at hl 3 rfl) ?_
    refine r_ast hx hb hK hP hD hS 2 0 rfl rfl z hz (out_lt hz hz8 c2) (Nat.le_of_ble_eq_true rfl) dX4_append_34 (fun H locs hP hD hS => ?_)
    have hP : va_P D vwCl [(h0, .inr (4, [.int rn, .ref h1, .ref h2, .ref h3, .ref h4])), (h1, .inl (cI, 8, .inl (upd kn z p0))), (h2, .inl (cI, 8, .inl (upd th z p1))), (h3, .inl (cI, 8, .inl du)), (h4, .inl (cI, 8, .inl ct))] H := hP
    have hD : va_D A [(h0, .inr (4, [.int rn, .ref h1, .ref h2, .ref h3, .ref h4])), (h1, .inl (cI, 8, .inl (upd kn z p0))), (h2, .inl (cI, 8, .inl (upd th z p1))), (h3, .inl (cI, 8, .inl du)), (h4, .inl (cI, 8, .inl ct))] := hD
    refine lv_aload_n hx hb dX4_append_35 rfl (lv_at hl 1 rfl) ?_
    refine va_get (D := D) (ci := 4) (v := .ref h3) (C := RX4) (T := TX4) (N := 5) hx hb hts hi4 hown hK hP 0 rfl rfl 3 (by decide) (hts (.fieldLink RX4 22 "GridInverter$Rules" "durations" "[I") (by decide +kernel)) (fun _ h9 => h9) rfl dX4_append_36 ?_
    refine lv_iload hx hb dX4_append_39 (lv_at hl 0 rfl) ?_
    refine lv_iload_n hx hb dX4_append_41 rfl (lv_at hl 4 rfl) ?_
    refine r_ast hx hb hK hP hD hS 3 0 rfl rfl z hz (out_lt hz hz8 c2) (Nat.le_of_ble_eq_true rfl) dX4_append_42 (fun H locs hP hD hS => ?_)
    have hP : va_P D vwCl [(h0, .inr (4, [.int rn, .ref h1, .ref h2, .ref h3, .ref h4])), (h1, .inl (cI, 8, .inl (upd kn z p0))), (h2, .inl (cI, 8, .inl (upd th z p1))), (h3, .inl (cI, 8, .inl (upd du z p2))), (h4, .inl (cI, 8, .inl ct))] H := hP
    have hD : va_D A [(h0, .inr (4, [.int rn, .ref h1, .ref h2, .ref h3, .ref h4])), (h1, .inl (cI, 8, .inl (upd kn z p0))), (h2, .inl (cI, 8, .inl (upd th z p1))), (h3, .inl (cI, 8, .inl (upd du z p2))), (h4, .inl (cI, 8, .inl ct))] := hD
    refine lv_aload_n hx hb dX4_append_43 rfl (lv_at hl 1 rfl) ?_
    refine va_get (D := D) (ci := 4) (v := .ref h4) (C := RX4) (T := TX4) (N := 5) hx hb hts hi4 hown hK hP 0 rfl rfl 4 (by decide) (hts (.fieldLink RX4 25 "GridInverter$Rules" "counts" "[I") (by decide +kernel)) (fun _ h9 => h9) rfl dX4_append_44 ?_
    refine lv_iload hx hb dX4_append_47 (lv_at hl 0 rfl) ?_
    refine lv_iconst (v := 0) hx hb dX4_append_49 (by decide) ?_
    refine r_ast hx hb hK hP hD hS 4 0 rfl rfl z hz (out_lt hz hz8 c2) (Nat.le_of_ble_eq_true rfl) dX4_append_50 (fun H locs hP hD hS => ?_)
    have hP : va_P D vwCl [(h0, .inr (4, [.int rn, .ref h1, .ref h2, .ref h3, .ref h4])), (h1, .inl (cI, 8, .inl (upd kn z p0))), (h2, .inl (cI, 8, .inl (upd th z p1))), (h3, .inl (cI, 8, .inl (upd du z p2))), (h4, .inl (cI, 8, .inl (upd ct z 0)))] H := hP
    have hD : va_D A [(h0, .inr (4, [.int rn, .ref h1, .ref h2, .ref h3, .ref h4])), (h1, .inl (cI, 8, .inl (upd kn z p0))), (h2, .inl (cI, 8, .inl (upd th z p1))), (h3, .inl (cI, 8, .inl (upd du z p2))), (h4, .inl (cI, 8, .inl (upd ct z 0)))] := hD
    refine lv_aload_n hx hb dX4_append_51 rfl (lv_at hl 1 rfl) ?_
    refine lv_iload hx hb dX4_append_52 (lv_at hl 0 rfl) ?_
    refine lv_iconst (v := 1) hx hb dX4_append_54 (by decide) ?_
    refine lv_iadd hx hb dX4_append_55 ?_
    refine va_put (D := D) (ci := 4) (v := .int (rn + 1)) (ty := .int) (C := RX4) (T := TX4) (N := 5) hx hb hts hi4 tyX4 tyX4_ok nmX4 hown hK hP hD hS 0 rfl rfl 0 (by decide) (hts (.fieldLink RX4 9 "GridInverter$Rules" "size" "I") (by decide +kernel)) (fun _ h9 => h9) rfl (by decide +kernel) rfl rfl (Nat.le_of_ble_eq_true rfl) dX4_append_56 (fun H locs hP hD hS => ?_)
    have hP : va_P D vwCl [(h0, .inr (4, [.int (rn + 1), .ref h1, .ref h2, .ref h3, .ref h4])), (h1, .inl (cI, 8, .inl (upd kn z p0))), (h2, .inl (cI, 8, .inl (upd th z p1))), (h3, .inl (cI, 8, .inl (upd du z p2))), (h4, .inl (cI, 8, .inl (upd ct z 0)))] H := hP
    have hD : va_D A [(h0, .inr (4, [.int (rn + 1), .ref h1, .ref h2, .ref h3, .ref h4])), (h1, .inl (cI, 8, .inl (upd kn z p0))), (h2, .inl (cI, 8, .inl (upd th z p1))), (h3, .inl (cI, 8, .inl (upd du z p2))), (h4, .inl (cI, 8, .inl (upd ct z 0)))] := hD
    refine lv_iload hx hb dX4_append_59 (lv_at hl 0 rfl) ?_
    exact hret _ _ _ _ _ _ _ _ (by first | with_reducible rfl | (simp only [r_X4_append, v_h0_size_X4_append, a_h1_X4_append, a_h2_X4_append, a_h3_X4_append, a_h4_X4_append, if_pos c2]; done) | rfl) (by first | with_reducible rfl | (simp only [r_X4_append, v_h0_size_X4_append, a_h1_X4_append, a_h2_X4_append, a_h3_X4_append, a_h4_X4_append, if_pos c2]; done) | rfl) hP hD hS (Nat.le_of_ble_eq_true rfl) (Nat.le_of_ble_eq_true rfl) dX4_append_61
  · refine lv_iconst (v := (-1)) hx hb dX4_append_17 (by decide) ?_
    exact hret _ _ _ _ _ _ _ _ (by first | with_reducible rfl | (simp only [r_X4_append, v_h0_size_X4_append, a_h1_X4_append, a_h2_X4_append, a_h3_X4_append, a_h4_X4_append, if_neg c2]; done) | rfl) (by first | with_reducible rfl | (simp only [r_X4_append, v_h0_size_X4_append, a_h1_X4_append, a_h2_X4_append, a_h3_X4_append, a_h4_X4_append, if_neg c2]; done) | rfl) hP hD hS (Nat.le_of_ble_eq_true rfl) (Nat.le_of_ble_eq_true rfl) dX4_append_18

def r_X4_countOf (rn : Int32) (ct : Nat → Int32) (p0 : Int32) : Int32 := (if p0 < 0 then (-1) else (if rn ≤ p0 then (-1) else (if 8 ≤ p0 then (-1) else (ct p0.toNatClampNeg) : Int32) : Int32) : Int32)
set_option maxHeartbeats 4000000 in
set_option maxRecDepth 100000 in
theorem mX4_countOf (l : Launch) (D : va_G) (cI cJ cZ cO : ClassId) (h0 : Nat) (h1 : Nat) (h2 : Nat) (h3 : Nat) (h4 : Nat) (rn : Int32) (ct : Nat → Int32) (p0 : Int32) : MI l yX4_countOf wsX4_countOf ({ frames := 0, cells := 0, slots := 0, locals := 0 } : Room) D (tysK cI cJ cZ cO) [.ref h0, .int p0] [(h0, .inr (4, [.int rn, .ref h1, .ref h2, .ref h3, .ref h4])), (h4, .inl (cI, 8, .inl ct))] (r_X4_countOf rn ct p0) [(h0, .inr (4, [.int rn, .ref h1, .ref h2, .ref h3, .ref h4])), (h4, .inl (cI, 8, .inl ct))] := by
  refine MI.of (cc := cX4_countOf) (maxL := 2) (ret := .int) (by decide) rfl (Nat.le_of_ble_eq_true rfl) rfl ?_
  intro p e s m args below meth c A Q ls H locs B hS hP hD hl hret
  obtain ⟨hx, hb, hml, hown, hts, hK, hN, hA, hlocks⟩ := B
  have hi4 : ∀ w ∈ u_ws RX4 TX4 5, w ∈ wsX4_countOf := by decide +kernel
  have hl : lv_has ls 2 [(0, .ref h0), (1, .int p0)] := hl
  refine lv_iload_n hx hb dX4_countOf_0 rfl (lv_at hl 1 rfl) ?_
  have K28 : ∀ (y3 : Int32) (H : Heap) (locs : List Loc) (ls : Array Slot), y3 = (if p0 < 0 then (-1) else (if rn ≤ p0 then (-1) else (if 8 ≤ p0 then (-1) else (ct p0.toNatClampNeg) : Int32) : Int32) : Int32) → va_P D vwCl [(h0, .inr (4, [.int rn, .ref h1, .ref h2, .ref h3, .ref h4])), (h4, .inl (cI, 8, .inl ct))] H → va_D A [(h0, .inr (4, [.int rn, .ref h1, .ref h2, .ref h3, .ref h4])), (h4, .inl (cI, 8, .inl ct))] → va_S A s.heap H locs → lv_has ls 2 [(0, .ref h0), (1, .int p0)] → W p l e ({ frames := 0, cells := 0, slots := 0, locals := 0 } : Room) s m args below meth c H locs 0 0 Q (F0 m 28 ls [.int y3]) := by
    intro y3 H locs ls ey3 hP hD hS hl
    exact hret _ _ _ _ _ _ _ _ (by subst ey3; first | with_reducible rfl | (simp only [r_X4_countOf]; done) | rfl) (by subst ey3; first | with_reducible rfl | (simp only [r_X4_countOf]; done) | rfl) hP hD hS (Nat.le_of_ble_eq_true rfl) (Nat.le_of_ble_eq_true rfl) dX4_countOf_28
  refine lv_if_lt (tgt := 27) hx hb dX4_countOf_1 (by decide) (fun c2 => ?_) (fun c2 => ?_)
  · refine lv_iconst (v := (-1)) hx hb dX4_countOf_27 (by decide) ?_
    exact K28 _ _ _ _ (by first | with_reducible rfl | (simp only [if_pos c2]; done) | rfl) (hP.sub [0, 1] rfl) (hD.sub [0, 1] (by decide) rfl) hS (lv_sub hl [0, 1] rfl)
  · refine lv_iload_n hx hb dX4_countOf_4 rfl (lv_at hl 1 rfl) ?_
    refine lv_aload_n hx hb dX4_countOf_5 rfl (lv_at hl 0 rfl) ?_
    refine va_get (D := D) (ci := 4) (v := .int rn) (C := RX4) (T := TX4) (N := 5) hx hb hts hi4 hown hK hP 0 rfl rfl 0 (by decide) (hts (.fieldLink RX4 9 "GridInverter$Rules" "size" "I") (by decide +kernel)) (fun _ h9 => h9) rfl dX4_countOf_6 ?_
    refine lv_icmp_ge (tgt := 27) hx hb dX4_countOf_9 (by decide) (fun c5 => ?_) (fun c5 => ?_)
    · refine lv_iconst (v := (-1)) hx hb dX4_countOf_27 (by decide) ?_
      exact K28 _ _ _ _ (by first | with_reducible rfl | (simp only [if_neg c2, if_pos c5]; done) | rfl) (hP.sub [0, 1] rfl) (hD.sub [0, 1] (by decide) rfl) hS (lv_sub hl [0, 1] rfl)
    · refine lv_iload_n hx hb dX4_countOf_12 rfl (lv_at hl 1 rfl) ?_
      refine lv_bipush (v := 8) hx hb dX4_countOf_13 (by decide) ?_
      refine lv_icmp_ge (tgt := 27) hx hb dX4_countOf_15 (by decide) (fun c7 => ?_) (fun c7 => ?_)
      · refine lv_iconst (v := (-1)) hx hb dX4_countOf_27 (by decide) ?_
        exact K28 _ _ _ _ (by first | with_reducible rfl | (simp only [if_neg c2, if_neg c5, if_pos c7]; done) | rfl) (hP.sub [0, 1] rfl) (hD.sub [0, 1] (by decide) rfl) hS (lv_sub hl [0, 1] rfl)
      · refine lv_aload_n hx hb dX4_countOf_18 rfl (lv_at hl 0 rfl) ?_
        refine va_get (D := D) (ci := 4) (v := .ref h4) (C := RX4) (T := TX4) (N := 5) hx hb hts hi4 hown hK hP 0 rfl rfl 4 (by decide) (hts (.fieldLink RX4 25 "GridInverter$Rules" "counts" "[I") (by decide +kernel)) (fun _ h9 => h9) rfl dX4_countOf_19 ?_
        refine lv_iload_n hx hb dX4_countOf_22 rfl (lv_at hl 1 rfl) ?_
        refine r_ald hx hb hK hP 1 0 rfl rfl p0.toNatClampNeg (ix_of c2).1 (ix_lt c2 8 (Nat.le_of_ble_eq_true rfl) c7) (Nat.le_of_ble_eq_true rfl) (v := (ct p0.toNatClampNeg)) rfl dX4_countOf_23 ?_
        refine lv_goto (tgt := 28) hx hb dX4_countOf_24 (by decide) ?_
        exact K28 _ _ _ _ (by first | with_reducible rfl | (simp only [if_neg c2, if_neg c5, if_neg c7]; done) | rfl) (hP.sub [0, 1] rfl) (hD.sub [0, 1] (by decide) rfl) hS (lv_sub hl [0, 1] rfl)

def a_h4_X4_forgetViolations (ct : Nat → Int32) : Nat → Int32 := (fillN ct 0 8)
set_option maxHeartbeats 4000000 in
set_option maxRecDepth 100000 in
theorem mX4_forgetViolations (l : Launch) (D : va_G) (cI cJ cZ cO : ClassId) (h0 : Nat) (h1 : Nat) (h2 : Nat) (h3 : Nat) (h4 : Nat) (rn : Int32) (ct : Nat → Int32) : MV l yX4_forgetViolations wsX4_forgetViolations ({ frames := 0, cells := 0, slots := 0, locals := 0 } : Room) D (tysK cI cJ cZ cO) [.ref h0] [(h0, .inr (4, [.int rn, .ref h1, .ref h2, .ref h3, .ref h4])), (h4, .inl (cI, 8, .inl ct))] (fun (_ : Unit) => [(h0, .inr (4, [.int rn, .ref h1, .ref h2, .ref h3, .ref h4])), (h4, .inl (cI, 8, .inl (a_h4_X4_forgetViolations ct)))]) := by
  refine MV.of (cc := cX4_forgetViolations) (maxL := 2) (by decide) rfl (Nat.le_of_ble_eq_true rfl) ?_
  intro p e s m args below meth c A Q ls H locs B hin hS hP hD hl hret
  obtain ⟨hx, hb, hml, hown, hts, hK, hN, hA, hlocks⟩ := B
  have hi4 : ∀ w ∈ u_ws RX4 TX4 5, w ∈ wsX4_forgetViolations := by decide +kernel
  have hl : lv_has ls 2 [(0, .ref h0)] := hl
  refine lv_iconst (v := 0) hx hb dX4_forgetViolations_0 (by decide) ?_
  refine lv_istore_n (lv' := [(1, .int 0), (0, .ref h0)]) hx hb dX4_forgetViolations_1 rfl hl (by decide) rfl (fun ls hl => ?_)
  have L2 : ∀ (n i : Nat) (H : Heap) (locs : List Loc) (ls : Array Slot), i ≤ 8 → 8 + 1 ≤ i + n → va_P D vwCl [(h0, .inr (4, [.int rn, .ref h1, .ref h2, .ref h3, .ref h4])), (h4, .inl (cI, 8, .inl (fillN ct 0 i)))] H → va_D A [(h0, .inr (4, [.int rn, .ref h1, .ref h2, .ref h3, .ref h4])), (h4, .inl (cI, 8, .inl (fillN ct 0 i)))] → va_S A s.heap H locs → lv_has ls 2 [(0, .ref h0), (1, .int (nI i))] → W p l e ({ frames := 0, cells := 0, slots := 0, locals := 0 } : Room) s m args below meth c H locs 0 0 Q (F0 m 2 ls []) := by
    intro n
    induction n with
    | zero => intro i H locs ls hi hin; exact absurd hin (by omega)
    | succ n ih =>
      intro i H locs ls hi hin hP hD hS hl
      refine lv_iload_n hx hb dX4_forgetViolations_2 rfl (lv_at hl 1 rfl) ?_
      refine lv_bipush (v := 8) hx hb dX4_forgetViolations_3 (by decide) ?_
      refine lv_icmp_ge (tgt := 21) hx hb dX4_forgetViolations_5 (by decide) (fun c1 => ?_) (fun c1 => ?_)
      · have hiN : 8 = i := Nat.le_antisymm ((gd_ex (N := 8) rfl (Nat.le_of_ble_eq_true rfl) hi c1)) hi
        subst hiN
        have hP : va_P D vwCl [(h0, .inr (4, [.int rn, .ref h1, .ref h2, .ref h3, .ref h4])), (h4, .inl (cI, 8, .inl (fillN ct 0 8)))] H := hP
        have hD : va_D A [(h0, .inr (4, [.int rn, .ref h1, .ref h2, .ref h3, .ref h4])), (h4, .inl (cI, 8, .inl (fillN ct 0 8)))] := hD
        have hl : lv_has ls 2 [(0, .ref h0), (1, .int (nI 8))] := hl
        exact hret () _ _ _ _ _ _ _ (by first | with_reducible rfl | (simp only [a_h4_X4_forgetViolations]; done) | rfl) hP hD hS (Nat.le_of_ble_eq_true rfl) (Nat.le_of_ble_eq_true rfl) dX4_forgetViolations_21
      · have hiN : i < 8 := (gd_in (N := 8) rfl (Nat.le_of_ble_eq_true rfl) hi c1)
        refine lv_aload_n hx hb dX4_forgetViolations_8 rfl (lv_at hl 0 rfl) ?_
        refine va_get (D := D) (ci := 4) (v := .ref h4) (C := RX4) (T := TX4) (N := 5) hx hb hts hi4 hown hK hP 0 rfl rfl 4 (by decide) (hts (.fieldLink RX4 25 "GridInverter$Rules" "counts" "[I") (by decide +kernel)) (fun _ h9 => h9) rfl dX4_forgetViolations_9 ?_
        refine lv_iload_n hx hb dX4_forgetViolations_12 rfl (lv_at hl 1 rfl) ?_
        refine lv_iconst (v := 0) hx hb dX4_forgetViolations_13 (by decide) ?_
        refine r_ast hx hb hK hP hD hS 1 0 rfl rfl i rfl hiN (Nat.le_of_ble_eq_true rfl) dX4_forgetViolations_14 (fun H locs hP hD hS => ?_)
        have hP : va_P D vwCl [(h0, .inr (4, [.int rn, .ref h1, .ref h2, .ref h3, .ref h4])), (h4, .inl (cI, 8, .inl (upd (fillN ct 0 i) i 0)))] H := hP
        have hD : va_D A [(h0, .inr (4, [.int rn, .ref h1, .ref h2, .ref h3, .ref h4])), (h4, .inl (cI, 8, .inl (upd (fillN ct 0 i) i 0)))] := hD
        refine lv_iinc (v := (nI (i + 1))) (lv' := [(1, .int (nI (i + 1))), (0, .ref h0)]) hx hb dX4_forgetViolations_15 hl (k := 1) rfl (nI_1 i) (by decide) rfl (fun ls hl => ?_)
        refine lv_goto (tgt := 2) hx hb dX4_forgetViolations_18 (by decide) ?_
        have eW : ([(h0, .inr (4, [.int rn, .ref h1, .ref h2, .ref h3, .ref h4])), (h4, .inl (cI, 8, .inl (upd (fillN ct 0 i) i 0)))] : va_W) = [(h0, .inr (4, [.int rn, .ref h1, .ref h2, .ref h3, .ref h4])), (h4, .inl (cI, 8, .inl (fillN ct 0 (i + 1))))] := (by rfl)
        have eL : ([(0, .ref h0), (1, .int (nI (i + 1)))] : List (Nat × Value)) = [(0, .ref h0), (1, .int (nI (i + 1)))] := (by rfl)
        exact ih (i + 1) H locs ls (by omega) (by omega) (P_eq eW (hP.sub (ws' := [(h0, .inr (4, [.int rn, .ref h1, .ref h2, .ref h3, .ref h4])), (h4, .inl (cI, 8, .inl (upd (fillN ct 0 i) i 0)))]) [0, 1] rfl)) (D_eq eW (hD.sub (ws' := [(h0, .inr (4, [.int rn, .ref h1, .ref h2, .ref h3, .ref h4])), (h4, .inl (cI, 8, .inl (upd (fillN ct 0 i) i 0)))]) [0, 1] (by decide) rfl)) hS (L_eq eL (lv_sub (l' := [(0, .ref h0), (1, .int (nI (i + 1)))]) hl [1, 0] rfl))
  have eW : ([(h0, .inr (4, [.int rn, .ref h1, .ref h2, .ref h3, .ref h4])), (h4, .inl (cI, 8, .inl ct))] : va_W) = [(h0, .inr (4, [.int rn, .ref h1, .ref h2, .ref h3, .ref h4])), (h4, .inl (cI, 8, .inl (fillN ct 0 0)))] := by rfl
  have eL : ([(0, .ref h0), (1, .int 0)] : List (Nat × Value)) = [(0, .ref h0), (1, .int (nI 0))] := by rfl
  exact L2 (8 + 1) 0 H locs ls (by omega) (by omega) (P_eq eW (hP.sub (ws' := [(h0, .inr (4, [.int rn, .ref h1, .ref h2, .ref h3, .ref h4])), (h4, .inl (cI, 8, .inl ct))]) [0, 1] rfl)) (D_eq eW (hD.sub (ws' := [(h0, .inr (4, [.int rn, .ref h1, .ref h2, .ref h3, .ref h4])), (h4, .inl (cI, 8, .inl ct))]) [0, 1] (by decide) rfl)) hS (L_eq eL (lv_sub (l' := [(0, .ref h0), (1, .int 0)]) hl [1, 0] rfl))

def r_X4_countViolations (kn : Nat → Int32) (th : Nat → Int32) (du : Nat → Int32) (ct : Nat → Int32) (p0 : Int32) (p1 : Int32) (p2 : Int32) (z : Nat) : Int32 := (cvD kn th du ct p0 p1 p2 z)
def a_h4_X4_countViolations (kn : Nat → Int32) (th : Nat → Int32) (ct : Nat → Int32) (p0 : Int32) (p1 : Int32) (p2 : Int32) (z : Nat) : Nat → Int32 := (cvC kn th ct p0 p1 p2 z)
set_option maxHeartbeats 4000000 in
set_option maxRecDepth 100000 in
theorem mX4_countViolations (l : Launch) (D : va_G) (cI cJ cZ cO : ClassId) (h0 : Nat) (h1 : Nat) (h2 : Nat) (h3 : Nat) (h4 : Nat) (rn : Int32) (kn : Nat → Int32) (th : Nat → Int32) (du : Nat → Int32) (ct : Nat → Int32) (p0 : Int32) (p1 : Int32) (p2 : Int32) (z : Nat) (hz : rn = nI z) (hz8 : z ≤ 8) : MI l yX4_countViolations wsX4_countViolations ({ frames := 1, cells := 0, slots := 0, locals := 24 } : Room) D (tysK cI cJ cZ cO) [.ref h0, .int p0, .int p1, .int p2] [(h0, .inr (4, [.int rn, .ref h1, .ref h2, .ref h3, .ref h4])), (h1, .inl (cI, 8, .inl kn)), (h2, .inl (cI, 8, .inl th)), (h3, .inl (cI, 8, .inl du)), (h4, .inl (cI, 8, .inl ct))] (r_X4_countViolations kn th du ct p0 p1 p2 z) [(h0, .inr (4, [.int rn, .ref h1, .ref h2, .ref h3, .ref h4])), (h1, .inl (cI, 8, .inl kn)), (h2, .inl (cI, 8, .inl th)), (h3, .inl (cI, 8, .inl du)), (h4, .inl (cI, 8, .inl (a_h4_X4_countViolations kn th ct p0 p1 p2 z)))] := by
  refine MI.of (cc := cX4_countViolations) (maxL := 7) (ret := .int) (by decide) rfl (Nat.le_of_ble_eq_true rfl) rfl ?_
  intro p e s m args below meth c A Q ls H locs B hS hP hD hl hret
  obtain ⟨hx, hb, hml, hown, hts, hK, hN, hA, hlocks⟩ := B
  have hi4 : ∀ w ∈ u_ws RX4 TX4 5, w ∈ wsX4_countViolations := by decide +kernel
  have hl : lv_has ls 7 [(0, .ref h0), (1, .int p0), (2, .int p1), (3, .int p2)] := hl
  refine lv_iconst (v := (-1)) hx hb dX4_countViolations_0 (by decide) ?_
  refine lv_istore (lv' := [(4, .int (-1)), (0, .ref h0), (1, .int p0), (2, .int p1), (3, .int p2)]) hx hb dX4_countViolations_1 hl (by decide) rfl (fun ls hl => ?_)
  refine lv_iconst (v := 0) hx hb dX4_countViolations_3 (by decide) ?_
  refine lv_istore (lv' := [(5, .int 0), (4, .int (-1)), (0, .ref h0), (1, .int p0), (2, .int p1), (3, .int p2)]) hx hb dX4_countViolations_4 hl (by decide) rfl (fun ls hl => ?_)
  have L6 : ∀ (n i : Nat) (H : Heap) (locs : List Loc) (ls : Array Slot), i ≤ z → z + 1 ≤ i + n → va_P D vwCl [(h0, .inr (4, [.int rn, .ref h1, .ref h2, .ref h3, .ref h4])), (h1, .inl (cI, 8, .inl kn)), (h2, .inl (cI, 8, .inl th)), (h3, .inl (cI, 8, .inl du)), (h4, .inl (cI, 8, .inl (cvC kn th ct p0 p1 p2 i)))] H → va_D A [(h0, .inr (4, [.int rn, .ref h1, .ref h2, .ref h3, .ref h4])), (h1, .inl (cI, 8, .inl kn)), (h2, .inl (cI, 8, .inl th)), (h3, .inl (cI, 8, .inl du)), (h4, .inl (cI, 8, .inl (cvC kn th ct p0 p1 p2 i)))] → va_S A s.heap H locs → lv_has ls 7 [(0, .ref h0), (1, .int p0), (2, .int p1), (3, .int p2), (4, .int (cvD kn th du ct p0 p1 p2 i)), (5, .int (nI i))] → W p l e ({ frames := 1, cells := 0, slots := 0, locals := 24 } : Room) s m args below meth c H locs 0 0 Q (F0 m 6 ls []) := by
    intro n
    induction n with
    | zero => intro i H locs ls hi hin; exact absurd hin (by omega)
    | succ n ih =>
      intro i H locs ls hi hin hP hD hS hl
      refine lv_iload hx hb dX4_countViolations_6 (lv_at hl 5 rfl) ?_
      refine lv_aload_n hx hb dX4_countViolations_8 rfl (lv_at hl 0 rfl) ?_
      refine va_get (D := D) (ci := 4) (v := .int rn) (C := RX4) (T := TX4) (N := 5) hx hb hts hi4 hown hK hP 0 rfl rfl 0 (by decide) (hts (.fieldLink RX4 9 "GridInverter$Rules" "size" "I") (by decide +kernel)) (fun _ h9 => h9) rfl dX4_countViolations_9 ?_
      refine lv_icmp_ge (tgt := 102) hx hb dX4_countViolations_12 (by decide) (fun c1 => ?_) (fun c1 => ?_)
      · have hiN : z = i := Nat.le_antisymm ((gd_ex hz (by omega) hi c1)) hi
        subst hiN
        have hP : va_P D vwCl [(h0, .inr (4, [.int rn, .ref h1, .ref h2, .ref h3, .ref h4])), (h1, .inl (cI, 8, .inl kn)), (h2, .inl (cI, 8, .inl th)), (h3, .inl (cI, 8, .inl du)), (h4, .inl (cI, 8, .inl (cvC kn th ct p0 p1 p2 z)))] H := hP
        have hD : va_D A [(h0, .inr (4, [.int rn, .ref h1, .ref h2, .ref h3, .ref h4])), (h1, .inl (cI, 8, .inl kn)), (h2, .inl (cI, 8, .inl th)), (h3, .inl (cI, 8, .inl du)), (h4, .inl (cI, 8, .inl (cvC kn th ct p0 p1 p2 z)))] := hD
        have hl : lv_has ls 7 [(0, .ref h0), (1, .int p0), (2, .int p1), (3, .int p2), (4, .int (cvD kn th du ct p0 p1 p2 z)), (5, .int (nI z))] := hl
        refine lv_iload hx hb dX4_countViolations_102 (lv_at hl 4 rfl) ?_
        exact hret _ _ _ _ _ _ _ _ (by first | with_reducible rfl | (simp only [r_X4_countViolations, a_h4_X4_countViolations]; done) | rfl) (by first | with_reducible rfl | (simp only [r_X4_countViolations, a_h4_X4_countViolations]; done) | rfl) hP hD hS (Nat.le_of_ble_eq_true rfl) (Nat.le_of_ble_eq_true rfl) dX4_countViolations_104
      · have hiN : i < z := (gd_in hz (by omega) hi c1)
        refine lv_iload hx hb dX4_countViolations_15 (lv_at hl 5 rfl) ?_
        refine lv_bipush (v := 8) hx hb dX4_countViolations_17 (by decide) ?_
        refine lv_icmp_ge (tgt := 102) hx hb dX4_countViolations_19 (by decide) (fun h => absurd h (nI_ge (a := i) (b := 8) (by omega) (Nat.le_of_ble_eq_true rfl))) (fun _ => ?_)
        refine lv_aload_n hx hb dX4_countViolations_22 rfl (lv_at hl 0 rfl) ?_
        refine va_get (D := D) (ci := 4) (v := .ref h1) (C := RX4) (T := TX4) (N := 5) hx hb hts hi4 hown hK hP 0 rfl rfl 1 (by decide) (hts (.fieldLink RX4 15 "GridInverter$Rules" "kinds" "[I") (by decide +kernel)) (fun _ h9 => h9) rfl dX4_countViolations_23 ?_
        refine lv_iload hx hb dX4_countViolations_26 (lv_at hl 5 rfl) ?_
        refine r_ald hx hb hK hP 1 0 rfl rfl i rfl (by omega) (Nat.le_of_ble_eq_true rfl) (v := (kn i)) rfl dX4_countViolations_28 ?_
        refine lv_aload_n hx hb dX4_countViolations_29 rfl (lv_at hl 0 rfl) ?_
        refine va_get (D := D) (ci := 4) (v := .ref h2) (C := RX4) (T := TX4) (N := 5) hx hb hts hi4 hown hK hP 0 rfl rfl 2 (by decide) (hts (.fieldLink RX4 19 "GridInverter$Rules" "thresholds" "[I") (by decide +kernel)) (fun _ h9 => h9) rfl dX4_countViolations_30 ?_
        refine lv_iload hx hb dX4_countViolations_33 (lv_at hl 5 rfl) ?_
        refine r_ald hx hb hK hP 2 0 rfl rfl i rfl (by omega) (Nat.le_of_ble_eq_true rfl) (v := (th i)) rfl dX4_countViolations_35 ?_
        refine lv_iload_n hx hb dX4_countViolations_36 rfl (lv_at hl 1 rfl) ?_
        refine lv_iload_n hx hb dX4_countViolations_37 rfl (lv_at hl 2 rfl) ?_
        refine lv_iload_n hx hb dX4_countViolations_38 rfl (lv_at hl 3 rfl) ?_
        refine call_i (wr := [(h0, .inr (4, [.int rn, .ref h1, .ref h2, .ref h3, .ref h4])), (h1, .inl (cI, 8, .inl kn)), (h2, .inl (cI, 8, .inl th)), (h3, .inl (cI, 8, .inl du)), (h4, .inl (cI, 8, .inl (cvC kn th ct p0 p1 p2 i)))]) (k := 0) (n := 0) (run_S (As := [.int (kn i), .int (th i), .int p0, .int p1, .int p2]) (rest := []) ⟨hx, hb, hml, hown, hts⟩ (mX4_isViolated l D cI cJ cZ cO (kn i) (th i) p0 p1 p2 H.size) (va_cwS 5 hts gX4_countViolations_X4_isViolated rfl rfl rfl (by decide +kernel) ⟨Nat.le_of_ble_eq_true rfl, Nat.le_of_ble_eq_true rfl⟩) hK hN hP hD [] (by decide) rfl rfl rfl hl.1 (Nat.le_of_ble_eq_true rfl) dX4_countViolations_39 ⟨Nat.le_of_ble_eq_true rfl, Nat.le_of_ble_eq_true rfl⟩) hP hD hS hA [] [0, 1, 2, 3, 4] rfl rfl (by decide) (by decide) (Nat.le_of_ble_eq_true rfl) (Nat.le_of_ble_eq_true rfl) (fun H locs hP hD hS => ?_)
        have hP : va_P D vwCl [(h0, .inr (4, [.int rn, .ref h1, .ref h2, .ref h3, .ref h4])), (h1, .inl (cI, 8, .inl kn)), (h2, .inl (cI, 8, .inl th)), (h3, .inl (cI, 8, .inl du)), (h4, .inl (cI, 8, .inl (cvC kn th ct p0 p1 p2 i)))] H := hP
        have hD : va_D A [(h0, .inr (4, [.int rn, .ref h1, .ref h2, .ref h3, .ref h4])), (h1, .inl (cI, 8, .inl kn)), (h2, .inl (cI, 8, .inl th)), (h3, .inl (cI, 8, .inl du)), (h4, .inl (cI, 8, .inl (cvC kn th ct p0 p1 p2 i)))] := hD
        refine lv_topi (fun x2 ex2 => ?_)
        refine lv_istore (lv' := [(6, .int x2), (0, .ref h0), (1, .int p0), (2, .int p1), (3, .int p2), (4, .int (cvD kn th du ct p0 p1 p2 i)), (5, .int (nI i))]) hx hb dX4_countViolations_42 hl (by decide) rfl (fun ls hl => ?_)
        refine lv_aload_n hx hb dX4_countViolations_44 rfl (lv_at hl 1 rfl) ?_
        refine va_get (D := D) (ci := 4) (v := .ref h4) (C := RX4) (T := TX4) (N := 5) hx hb hts hi4 hown hK hP 0 rfl rfl 4 (by decide) (hts (.fieldLink RX4 25 "GridInverter$Rules" "counts" "[I") (by decide +kernel)) (fun _ h9 => h9) rfl dX4_countViolations_45 ?_
        refine lv_iload hx hb dX4_countViolations_48 (lv_at hl 6 rfl) ?_
        refine lv_iload hx hb dX4_countViolations_50 (lv_at hl 0 rfl) ?_
        have K68 : ∀ (y5 : Int32) (H : Heap) (locs : List Loc) (ls : Array Slot), y5 = (if (r_X4_isViolated (kn i) (th i) p0 p1 p2) = 0 then 0 else (((cvC kn th ct p0 p1 p2 i) i) + 1) : Int32) → va_P D vwCl [(h0, .inr (4, [.int rn, .ref h1, .ref h2, .ref h3, .ref h4])), (h1, .inl (cI, 8, .inl kn)), (h2, .inl (cI, 8, .inl th)), (h3, .inl (cI, 8, .inl du)), (h4, .inl (cI, 8, .inl (cvC kn th ct p0 p1 p2 i)))] H → va_D A [(h0, .inr (4, [.int rn, .ref h1, .ref h2, .ref h3, .ref h4])), (h1, .inl (cI, 8, .inl kn)), (h2, .inl (cI, 8, .inl th)), (h3, .inl (cI, 8, .inl du)), (h4, .inl (cI, 8, .inl (cvC kn th ct p0 p1 p2 i)))] → va_S A s.heap H locs → lv_has ls 7 [(0, .ref h0), (1, .int p0), (2, .int p1), (3, .int p2), (4, .int (cvD kn th du ct p0 p1 p2 i)), (5, .int (nI i)), (6, .int x2)] → W p l e ({ frames := 1, cells := 0, slots := 0, locals := 24 } : Room) s m args below meth c H locs 0 0 Q (F0 m 68 ls [.int y5, .int (nI i), .ref h4]) := by
          intro y5 H locs ls ey5 hP hD hS hl
          refine r_ast hx hb hK hP hD hS 4 0 rfl rfl i rfl (by omega) (Nat.le_of_ble_eq_true rfl) dX4_countViolations_68 (fun H locs hP hD hS => ?_)
          obtain ⟨x6, ex6⟩ : ∃ zz_, zz_ = (upd (cvC kn th ct p0 p1 p2 i) i y5) := ⟨_, rfl⟩
          have hP : va_P D vwCl [(h0, .inr (4, [.int rn, .ref h1, .ref h2, .ref h3, .ref h4])), (h1, .inl (cI, 8, .inl kn)), (h2, .inl (cI, 8, .inl th)), (h3, .inl (cI, 8, .inl du)), (h4, .inl (cI, 8, .inl x6))] H := by rw [ex6]; exact hP
          have hD : va_D A [(h0, .inr (4, [.int rn, .ref h1, .ref h2, .ref h3, .ref h4])), (h1, .inl (cI, 8, .inl kn)), (h2, .inl (cI, 8, .inl th)), (h3, .inl (cI, 8, .inl du)), (h4, .inl (cI, 8, .inl x6))] := by rw [ex6]; exact hD
          refine lv_iload hx hb dX4_countViolations_69 (lv_at hl 4 rfl) ?_
          refine lv_iconst (v := (-1)) hx hb dX4_countViolations_71 (by decide) ?_
          have K96 : ∀ (y9 : Int32) (H : Heap) (locs : List Loc) (ls : Array Slot), y9 = (if (cvD kn th du ct p0 p1 p2 i) = (-1) then (if (if (r_X4_isViolated (kn i) (th i) p0 p1 p2) = 0 then 0 else (((cvC kn th ct p0 p1 p2 i) i) + 1) : Int32) < (du i) then (cvD kn th du ct p0 p1 p2 i) else (nI i) : Int32) else (cvD kn th du ct p0 p1 p2 i) : Int32) → va_P D vwCl [(h0, .inr (4, [.int rn, .ref h1, .ref h2, .ref h3, .ref h4])), (h1, .inl (cI, 8, .inl kn)), (h2, .inl (cI, 8, .inl th)), (h3, .inl (cI, 8, .inl du)), (h4, .inl (cI, 8, .inl x6))] H → va_D A [(h0, .inr (4, [.int rn, .ref h1, .ref h2, .ref h3, .ref h4])), (h1, .inl (cI, 8, .inl kn)), (h2, .inl (cI, 8, .inl th)), (h3, .inl (cI, 8, .inl du)), (h4, .inl (cI, 8, .inl x6))] → va_S A s.heap H locs → lv_has ls 7 [(0, .ref h0), (1, .int p0), (2, .int p1), (3, .int p2), (4, .int y9), (5, .int (nI i)), (6, .int x2)] → W p l e ({ frames := 1, cells := 0, slots := 0, locals := 24 } : Room) s m args below meth c H locs 0 0 Q (F0 m 96 ls []) := by
            intro y9 H locs ls ey9 hP hD hS hl
            refine lv_iinc (v := (nI (i + 1))) (lv' := [(5, .int (nI (i + 1))), (0, .ref h0), (1, .int p0), (2, .int p1), (3, .int p2), (4, .int y9), (6, .int x2)]) hx hb dX4_countViolations_96 hl (k := 5) rfl (nI_1 i) (by decide) rfl (fun ls hl => ?_)
            refine lv_goto (tgt := 6) hx hb dX4_countViolations_99 (by decide) ?_
            have eW : ([(h0, .inr (4, [.int rn, .ref h1, .ref h2, .ref h3, .ref h4])), (h1, .inl (cI, 8, .inl kn)), (h2, .inl (cI, 8, .inl th)), (h3, .inl (cI, 8, .inl du)), (h4, .inl (cI, 8, .inl x6))] : va_W) = [(h0, .inr (4, [.int rn, .ref h1, .ref h2, .ref h3, .ref h4])), (h1, .inl (cI, 8, .inl kn)), (h2, .inl (cI, 8, .inl th)), (h3, .inl (cI, 8, .inl du)), (h4, .inl (cI, 8, .inl (cvC kn th ct p0 p1 p2 (i + 1))))] := (by subst ex2; subst ey5; subst ex6; subst ey9; rfl)
            have eL : ([(0, .ref h0), (1, .int p0), (2, .int p1), (3, .int p2), (4, .int y9), (5, .int (nI (i + 1)))] : List (Nat × Value)) = [(0, .ref h0), (1, .int p0), (2, .int p1), (3, .int p2), (4, .int (cvD kn th du ct p0 p1 p2 (i + 1))), (5, .int (nI (i + 1)))] := (by subst ex2; subst ey5; subst ex6; subst ey9; rfl)
            exact ih (i + 1) H locs ls (by omega) (by omega) (P_eq eW (hP.sub (ws' := [(h0, .inr (4, [.int rn, .ref h1, .ref h2, .ref h3, .ref h4])), (h1, .inl (cI, 8, .inl kn)), (h2, .inl (cI, 8, .inl th)), (h3, .inl (cI, 8, .inl du)), (h4, .inl (cI, 8, .inl x6))]) [0, 1, 2, 3, 4] rfl)) (D_eq eW (hD.sub (ws' := [(h0, .inr (4, [.int rn, .ref h1, .ref h2, .ref h3, .ref h4])), (h1, .inl (cI, 8, .inl kn)), (h2, .inl (cI, 8, .inl th)), (h3, .inl (cI, 8, .inl du)), (h4, .inl (cI, 8, .inl x6))]) [0, 1, 2, 3, 4] (by decide) rfl)) hS (L_eq eL (lv_sub (l' := [(0, .ref h0), (1, .int p0), (2, .int p1), (3, .int p2), (4, .int y9), (5, .int (nI (i + 1)))]) hl [1, 2, 3, 4, 5, 0] rfl))
          refine lv_icmp_ne (tgt := 96) hx hb dX4_countViolations_72 (by decide) (fun c8 => ?_) (fun c8 => ?_)
          · exact K96 _ _ _ _ (by subst ex2; subst ey5; subst ex6; first | with_reducible rfl | (simp only [if_neg c8]; done) | rfl) (hP.sub [0, 1, 2, 3, 4] rfl) (hD.sub [0, 1, 2, 3, 4] (by decide) rfl) hS (lv_sub hl [0, 1, 2, 3, 4, 5, 6] rfl)
          · refine lv_aload_n hx hb dX4_countViolations_75 rfl (lv_at hl 0 rfl) ?_
            refine va_get (D := D) (ci := 4) (v := .ref h4) (C := RX4) (T := TX4) (N := 5) hx hb hts hi4 hown hK hP 0 rfl rfl 4 (by decide) (hts (.fieldLink RX4 25 "GridInverter$Rules" "counts" "[I") (by decide +kernel)) (fun _ h9 => h9) rfl dX4_countViolations_76 ?_
            refine lv_iload hx hb dX4_countViolations_79 (lv_at hl 5 rfl) ?_
            refine r_ald hx hb hK hP 4 0 rfl rfl i rfl (by omega) (Nat.le_of_ble_eq_true rfl) (v := y5) (by subst ex6; exact pk_us) dX4_countViolations_81 ?_
            refine lv_aload_n hx hb dX4_countViolations_82 rfl (lv_at hl 0 rfl) ?_
            refine va_get (D := D) (ci := 4) (v := .ref h3) (C := RX4) (T := TX4) (N := 5) hx hb hts hi4 hown hK hP 0 rfl rfl 3 (by decide) (hts (.fieldLink RX4 22 "GridInverter$Rules" "durations" "[I") (by decide +kernel)) (fun _ h9 => h9) rfl dX4_countViolations_83 ?_
            refine lv_iload hx hb dX4_countViolations_86 (lv_at hl 5 rfl) ?_
            refine r_ald hx hb hK hP 3 0 rfl rfl i rfl (by omega) (Nat.le_of_ble_eq_true rfl) (v := (du i)) rfl dX4_countViolations_88 ?_
            refine lv_icmp_lt (tgt := 96) hx hb dX4_countViolations_89 (by decide) (fun c11 => ?_) (fun c11 => ?_)
            · exact K96 _ _ _ _ (by subst ex2; subst ey5; subst ex6; first | with_reducible rfl | (simp only [if_pos c8, if_pos c11]; done) | rfl) (hP.sub [0, 1, 2, 3, 4] rfl) (hD.sub [0, 1, 2, 3, 4] (by decide) rfl) hS (lv_sub hl [0, 1, 2, 3, 4, 5, 6] rfl)
            · refine lv_iload hx hb dX4_countViolations_92 (lv_at hl 5 rfl) ?_
              refine lv_istore (lv' := [(4, .int (nI i)), (0, .ref h0), (1, .int p0), (2, .int p1), (3, .int p2), (5, .int (nI i)), (6, .int x2)]) hx hb dX4_countViolations_94 hl (by decide) rfl (fun ls hl => ?_)
              exact K96 _ _ _ _ (by subst ex2; subst ey5; subst ex6; first | with_reducible rfl | (simp only [if_pos c8, if_neg c11]; done) | rfl) (hP.sub [0, 1, 2, 3, 4] rfl) (hD.sub [0, 1, 2, 3, 4] (by decide) rfl) hS (lv_sub hl [1, 2, 3, 4, 0, 5, 6] rfl)
        refine lv_if_eq (tgt := 67) hx hb dX4_countViolations_52 (by decide) (fun c4 => ?_) (fun c4 => ?_)
        · refine lv_iconst (v := 0) hx hb dX4_countViolations_67 (by decide) ?_
          exact K68 _ _ _ _ (by subst ex2; first | with_reducible rfl | (simp only [if_pos c4]; done) | rfl) (hP.sub [0, 1, 2, 3, 4] rfl) (hD.sub [0, 1, 2, 3, 4] (by decide) rfl) hS (lv_sub hl [1, 2, 3, 4, 5, 6, 0] rfl)
        · refine lv_aload_n hx hb dX4_countViolations_55 rfl (lv_at hl 1 rfl) ?_
          refine va_get (D := D) (ci := 4) (v := .ref h4) (C := RX4) (T := TX4) (N := 5) hx hb hts hi4 hown hK hP 0 rfl rfl 4 (by decide) (hts (.fieldLink RX4 25 "GridInverter$Rules" "counts" "[I") (by decide +kernel)) (fun _ h9 => h9) rfl dX4_countViolations_56 ?_
          refine lv_iload hx hb dX4_countViolations_59 (lv_at hl 6 rfl) ?_
          refine r_ald hx hb hK hP 4 0 rfl rfl i rfl (by omega) (Nat.le_of_ble_eq_true rfl) (v := ((cvC kn th ct p0 p1 p2 i) i)) rfl dX4_countViolations_61 ?_
          refine lv_topi (fun x12 ex12 => ?_)
          refine lv_iconst (v := 1) hx hb dX4_countViolations_62 (by decide) ?_
          refine lv_iadd hx hb dX4_countViolations_63 ?_
          refine lv_goto (tgt := 68) hx hb dX4_countViolations_64 (by decide) ?_
          exact K68 _ _ _ _ (by subst ex2; subst ex12; first | with_reducible rfl | (simp only [if_neg c4]; done) | rfl) (hP.sub [0, 1, 2, 3, 4] rfl) (hD.sub [0, 1, 2, 3, 4] (by decide) rfl) hS (lv_sub hl [1, 2, 3, 4, 5, 6, 0] rfl)
  have eW : ([(h0, .inr (4, [.int rn, .ref h1, .ref h2, .ref h3, .ref h4])), (h1, .inl (cI, 8, .inl kn)), (h2, .inl (cI, 8, .inl th)), (h3, .inl (cI, 8, .inl du)), (h4, .inl (cI, 8, .inl ct))] : va_W) = [(h0, .inr (4, [.int rn, .ref h1, .ref h2, .ref h3, .ref h4])), (h1, .inl (cI, 8, .inl kn)), (h2, .inl (cI, 8, .inl th)), (h3, .inl (cI, 8, .inl du)), (h4, .inl (cI, 8, .inl (cvC kn th ct p0 p1 p2 0)))] := by rfl
  have eL : ([(0, .ref h0), (1, .int p0), (2, .int p1), (3, .int p2), (4, .int (-1)), (5, .int 0)] : List (Nat × Value)) = [(0, .ref h0), (1, .int p0), (2, .int p1), (3, .int p2), (4, .int (cvD kn th du ct p0 p1 p2 0)), (5, .int (nI 0))] := by rfl
  exact L6 (z + 1) 0 H locs ls (by omega) (by omega) (P_eq eW (hP.sub (ws' := [(h0, .inr (4, [.int rn, .ref h1, .ref h2, .ref h3, .ref h4])), (h1, .inl (cI, 8, .inl kn)), (h2, .inl (cI, 8, .inl th)), (h3, .inl (cI, 8, .inl du)), (h4, .inl (cI, 8, .inl ct))]) [0, 1, 2, 3, 4] rfl)) (D_eq eW (hD.sub (ws' := [(h0, .inr (4, [.int rn, .ref h1, .ref h2, .ref h3, .ref h4])), (h1, .inl (cI, 8, .inl kn)), (h2, .inl (cI, 8, .inl th)), (h3, .inl (cI, 8, .inl du)), (h4, .inl (cI, 8, .inl ct))]) [0, 1, 2, 3, 4] (by decide) rfl)) hS (L_eq eL (lv_sub (l' := [(0, .ref h0), (1, .int p0), (2, .int p1), (3, .int p2), (4, .int (-1)), (5, .int 0)]) hl [2, 3, 4, 5, 1, 0] rfl))

def v_h0_size_X2_append (es : Int32) : Int32 := (es + 1)
def a_h1_X2_append (et : Nat → Int32) (p0 : Int32) (q : Nat) : Nat → Int32 := (upd et (q % 40) p0)
def a_h2_X2_append (ec : Nat → Int32) (p1 : Int32) (q : Nat) : Nat → Int32 := (upd ec (q % 40) p1)
set_option maxHeartbeats 4000000 in
set_option maxRecDepth 100000 in
theorem mX2_append (l : Launch) (D : va_G) (cI cJ cZ cO : ClassId) (h0 : Nat) (h1 : Nat) (h2 : Nat) (es : Int32) (et : Nat → Int32) (ec : Nat → Int32) (p0 : Int32) (p1 : Int32) (q : Nat) (hq : es = nI q) (hq2 : q < 2147483648) : MV l yX2_append wsX2_append ({ frames := 1, cells := 0, slots := 0, locals := 22 } : Room) D (tysK cI cJ cZ cO) [.ref h0, .int p0, .int p1] [(h0, .inr (2, [.int es, .ref h1, .ref h2])), (h1, .inl (cI, 40, .inl et)), (h2, .inl (cI, 40, .inl ec))] (fun (_ : Unit) => [(h0, .inr (2, [.int (v_h0_size_X2_append es), .ref h1, .ref h2])), (h1, .inl (cI, 40, .inl (a_h1_X2_append et p0 q))), (h2, .inl (cI, 40, .inl (a_h2_X2_append ec p1 q)))]) := by
  refine MV.of (cc := cX2_append) (maxL := 4) (by decide) rfl (Nat.le_of_ble_eq_true rfl) ?_
  intro p e s m args below meth c A Q ls H locs B hin hS hP hD hl hret
  obtain ⟨hx, hb, hml, hown, hts, hK, hN, hA, hlocks⟩ := B
  have hi2 : ∀ w ∈ u_ws RX2 TX2 3, w ∈ wsX2_append := by decide +kernel
  have hl : lv_has ls 4 [(0, .ref h0), (1, .int p0), (2, .int p1)] := hl
  refine lv_aload_n hx hb dX2_append_0 rfl (lv_at hl 0 rfl) ?_
  refine va_get (D := D) (ci := 2) (v := .int es) (C := RX2) (T := TX2) (N := 3) hx hb hts hi2 hown hK hP 0 rfl rfl 0 (by decide) (hts (.fieldLink RX2 9 "GridInverter$Log" "size" "I") (by decide +kernel)) (fun _ h9 => h9) rfl dX2_append_1 ?_
  refine lv_bipush (v := 40) hx hb dX2_append_4 (by decide) ?_
  refine call_i (wr := [(h0, .inr (2, [.int es, .ref h1, .ref h2])), (h1, .inl (cI, 40, .inl et)), (h2, .inl (cI, 40, .inl ec))]) (k := 0) (n := 0) (run_S (As := [.int es, .int 40]) (rest := []) ⟨hx, hb, hml, hown, hts⟩ (mJ9_floorMod_7cf53 l D cI cJ cZ cO es 40 (by decide) H.size) (va_cwS 2 hts gX2_append_J9_floorMod_7cf53 rfl rfl rfl (by decide +kernel) ⟨Nat.le_of_ble_eq_true rfl, Nat.le_of_ble_eq_true rfl⟩) hK hN hP hD [] (by decide) rfl rfl rfl hl.1 (Nat.le_of_ble_eq_true rfl) dX2_append_6 ⟨Nat.le_of_ble_eq_true rfl, Nat.le_of_ble_eq_true rfl⟩) hP hD hS hA [] [0, 1, 2] rfl rfl (by decide) (by decide) (Nat.le_of_ble_eq_true rfl) (Nat.le_of_ble_eq_true rfl) (fun H locs hP hD hS => ?_)
  have hP : va_P D vwCl [(h0, .inr (2, [.int es, .ref h1, .ref h2])), (h1, .inl (cI, 40, .inl et)), (h2, .inl (cI, 40, .inl ec))] H := hP
  have hD : va_D A [(h0, .inr (2, [.int es, .ref h1, .ref h2])), (h1, .inl (cI, 40, .inl et)), (h2, .inl (cI, 40, .inl ec))] := hD
  refine lv_topi (fun x1 ex1 => ?_)
  refine lv_istore_n (lv' := [(3, .int x1), (0, .ref h0), (1, .int p0), (2, .int p1)]) hx hb dX2_append_9 rfl hl (by decide) rfl (fun ls hl => ?_)
  refine lv_aload_n hx hb dX2_append_10 rfl (lv_at hl 1 rfl) ?_
  refine va_get (D := D) (ci := 2) (v := .ref h1) (C := RX2) (T := TX2) (N := 3) hx hb hts hi2 hown hK hP 0 rfl rfl 1 (by decide) (hts (.fieldLink RX2 15 "GridInverter$Log" "times" "[I") (by decide +kernel)) (fun _ h9 => h9) rfl dX2_append_11 ?_
  refine lv_iload_n hx hb dX2_append_14 rfl (lv_at hl 0 rfl) ?_
  refine lv_iload_n hx hb dX2_append_15 rfl (lv_at hl 2 rfl) ?_
  refine r_ast hx hb hK hP hD hS 1 0 rfl rfl (q % 40) (ex1.trans (fm_mod 40 hq hq2 (Nat.le_of_ble_eq_true rfl) (Nat.le_of_ble_eq_true rfl))) (Nat.mod_lt q (Nat.le_of_ble_eq_true rfl)) (Nat.le_of_ble_eq_true rfl) dX2_append_16 (fun H locs hP hD hS => ?_)
  have hP : va_P D vwCl [(h0, .inr (2, [.int es, .ref h1, .ref h2])), (h1, .inl (cI, 40, .inl (upd et (q % 40) p0))), (h2, .inl (cI, 40, .inl ec))] H := hP
  have hD : va_D A [(h0, .inr (2, [.int es, .ref h1, .ref h2])), (h1, .inl (cI, 40, .inl (upd et (q % 40) p0))), (h2, .inl (cI, 40, .inl ec))] := hD
  refine lv_aload_n hx hb dX2_append_17 rfl (lv_at hl 1 rfl) ?_
  refine va_get (D := D) (ci := 2) (v := .ref h2) (C := RX2) (T := TX2) (N := 3) hx hb hts hi2 hown hK hP 0 rfl rfl 2 (by decide) (hts (.fieldLink RX2 19 "GridInverter$Log" "causes" "[I") (by decide +kernel)) (fun _ h9 => h9) rfl dX2_append_18 ?_
  refine lv_iload_n hx hb dX2_append_21 rfl (lv_at hl 0 rfl) ?_
  refine lv_iload_n hx hb dX2_append_22 rfl (lv_at hl 3 rfl) ?_
  refine r_ast hx hb hK hP hD hS 2 0 rfl rfl (q % 40) (ex1.trans (fm_mod 40 hq hq2 (Nat.le_of_ble_eq_true rfl) (Nat.le_of_ble_eq_true rfl))) (Nat.mod_lt q (Nat.le_of_ble_eq_true rfl)) (Nat.le_of_ble_eq_true rfl) dX2_append_23 (fun H locs hP hD hS => ?_)
  have hP : va_P D vwCl [(h0, .inr (2, [.int es, .ref h1, .ref h2])), (h1, .inl (cI, 40, .inl (upd et (q % 40) p0))), (h2, .inl (cI, 40, .inl (upd ec (q % 40) p1)))] H := hP
  have hD : va_D A [(h0, .inr (2, [.int es, .ref h1, .ref h2])), (h1, .inl (cI, 40, .inl (upd et (q % 40) p0))), (h2, .inl (cI, 40, .inl (upd ec (q % 40) p1)))] := hD
  refine lv_aload_n hx hb dX2_append_24 rfl (lv_at hl 1 rfl) ?_
  refine lv_dup hx hb dX2_append_25 rfl ?_
  refine va_get (D := D) (ci := 2) (v := .int es) (C := RX2) (T := TX2) (N := 3) hx hb hts hi2 hown hK hP 0 rfl rfl 0 (by decide) (hts (.fieldLink RX2 9 "GridInverter$Log" "size" "I") (by decide +kernel)) (fun _ h9 => h9) rfl dX2_append_26 ?_
  refine lv_iconst (v := 1) hx hb dX2_append_29 (by decide) ?_
  refine lv_iadd hx hb dX2_append_30 ?_
  refine va_put (D := D) (ci := 2) (v := .int (es + 1)) (ty := .int) (C := RX2) (T := TX2) (N := 3) hx hb hts hi2 tyX2 tyX2_ok nmX2 hown hK hP hD hS 0 rfl rfl 0 (by decide) (hts (.fieldLink RX2 9 "GridInverter$Log" "size" "I") (by decide +kernel)) (fun _ h9 => h9) rfl (by decide +kernel) rfl rfl (Nat.le_of_ble_eq_true rfl) dX2_append_31 (fun H locs hP hD hS => ?_)
  have hP : va_P D vwCl [(h0, .inr (2, [.int (es + 1), .ref h1, .ref h2])), (h1, .inl (cI, 40, .inl (upd et (q % 40) p0))), (h2, .inl (cI, 40, .inl (upd ec (q % 40) p1)))] H := hP
  have hD : va_D A [(h0, .inr (2, [.int (es + 1), .ref h1, .ref h2])), (h1, .inl (cI, 40, .inl (upd et (q % 40) p0))), (h2, .inl (cI, 40, .inl (upd ec (q % 40) p1)))] := hD
  exact hret () _ _ _ _ _ _ _ (by subst ex1; first | with_reducible rfl | (simp only [v_h0_size_X2_append, a_h1_X2_append, a_h2_X2_append]; done) | rfl) hP hD hS (Nat.le_of_ble_eq_true rfl) (Nat.le_of_ble_eq_true rfl) dX2_append_34

def r_X2_timeOf (es : Int32) (et : Nat → Int32) (p0 : Int32) : Int32 := (if (r_X2_isKept es p0) = 0 then (-1) else (et (p0.toNatClampNeg % 40)) : Int32)
set_option maxHeartbeats 4000000 in
set_option maxRecDepth 100000 in
theorem mX2_timeOf (l : Launch) (D : va_G) (cI cJ cZ cO : ClassId) (h0 : Nat) (h1 : Nat) (h2 : Nat) (es : Int32) (et : Nat → Int32) (p0 : Int32) : MI l yX2_timeOf wsX2_timeOf ({ frames := 1, cells := 0, slots := 0, locals := 22 } : Room) D (tysK cI cJ cZ cO) [.ref h0, .int p0] [(h0, .inr (2, [.int es, .ref h1, .ref h2])), (h1, .inl (cI, 40, .inl et))] (r_X2_timeOf es et p0) [(h0, .inr (2, [.int es, .ref h1, .ref h2])), (h1, .inl (cI, 40, .inl et))] := by
  refine MI.of (cc := cX2_timeOf) (maxL := 2) (ret := .int) (by decide) rfl (Nat.le_of_ble_eq_true rfl) rfl ?_
  intro p e s m args below meth c A Q ls H locs B hS hP hD hl hret
  obtain ⟨hx, hb, hml, hown, hts, hK, hN, hA, hlocks⟩ := B
  have hi2 : ∀ w ∈ u_ws RX2 TX2 3, w ∈ wsX2_timeOf := by decide +kernel
  have hl : lv_has ls 2 [(0, .ref h0), (1, .int p0)] := hl
  refine lv_aload_n hx hb dX2_timeOf_0 rfl (lv_at hl 0 rfl) ?_
  refine lv_iload_n hx hb dX2_timeOf_1 rfl (lv_at hl 1 rfl) ?_
  refine call_i (wr := [(h1, .inl (cI, 40, .inl et))]) (k := 0) (n := 0) (run_V (As := [.int p0]) (rest := []) ⟨hx, hb, hml, hown, hts⟩ (mX2_isKept l D cI cJ cZ cO h0 h1 h2 es p0 H.size) (cwV 1 hts gX2_timeOf_X2_isKept rfl rfl rfl (by decide +kernel) ⟨Nat.le_of_ble_eq_true rfl, Nat.le_of_ble_eq_true rfl⟩) hK hN hP hD [0] (by decide) rfl 2 0 rfl rfl rfl rfl rfl hl.1 (Nat.le_of_ble_eq_true rfl) dX2_timeOf_2 ⟨Nat.le_of_ble_eq_true rfl, Nat.le_of_ble_eq_true rfl⟩) hP hD hS hA [0] [1] rfl rfl (by decide) (by decide) (Nat.le_of_ble_eq_true rfl) (Nat.le_of_ble_eq_true rfl) (fun H locs hP hD hS => ?_)
  have hP : va_P D vwCl [(h1, .inl (cI, 40, .inl et)), (h0, .inr (2, [.int es, .ref h1, .ref h2]))] H := hP
  have hD : va_D A [(h1, .inl (cI, 40, .inl et)), (h0, .inr (2, [.int es, .ref h1, .ref h2]))] := hD
  have K23 : ∀ (y3 : Int32) (H : Heap) (locs : List Loc) (ls : Array Slot), y3 = (if (r_X2_isKept es p0) = 0 then (-1) else (et (p0.toNatClampNeg % 40)) : Int32) → va_P D vwCl [(h1, .inl (cI, 40, .inl et)), (h0, .inr (2, [.int es, .ref h1, .ref h2]))] H → va_D A [(h1, .inl (cI, 40, .inl et)), (h0, .inr (2, [.int es, .ref h1, .ref h2]))] → va_S A s.heap H locs → lv_has ls 2 [(0, .ref h0), (1, .int p0)] → W p l e ({ frames := 1, cells := 0, slots := 0, locals := 22 } : Room) s m args below meth c H locs 0 0 Q (F0 m 23 ls [.int y3]) := by
    intro y3 H locs ls ey3 hP hD hS hl
    exact hret _ _ _ _ _ _ _ _ (by subst ey3; first | with_reducible rfl | (simp only [r_X2_timeOf]; done) | rfl) (by subst ey3; first | with_reducible rfl | (simp only [r_X2_timeOf]; done) | rfl) (hP.sub (ws' := [(h0, .inr (2, [.int es, .ref h1, .ref h2])), (h1, .inl (cI, 40, .inl et))]) [1, 0] rfl) (hD.sub (ws' := [(h0, .inr (2, [.int es, .ref h1, .ref h2])), (h1, .inl (cI, 40, .inl et))]) [1, 0] (by decide) rfl) hS (Nat.le_of_ble_eq_true rfl) (Nat.le_of_ble_eq_true rfl) dX2_timeOf_23
  refine lv_if_eq (tgt := 22) hx hb dX2_timeOf_5 (by decide) (fun c2 => ?_) (fun c2 => ?_)
  · refine lv_iconst (v := (-1)) hx hb dX2_timeOf_22 (by decide) ?_
    exact K23 _ _ _ _ (by first | with_reducible rfl | (simp only [if_pos c2]; done) | rfl) (hP.sub [0, 1] rfl) (hD.sub [0, 1] (by decide) rfl) hS (lv_sub hl [0, 1] rfl)
  · refine lv_aload_n hx hb dX2_timeOf_8 rfl (lv_at hl 0 rfl) ?_
    refine va_get (D := D) (ci := 2) (v := .ref h1) (C := RX2) (T := TX2) (N := 3) hx hb hts hi2 hown hK hP 1 rfl rfl 1 (by decide) (hts (.fieldLink RX2 15 "GridInverter$Log" "times" "[I") (by decide +kernel)) (fun _ h9 => h9) rfl dX2_timeOf_9 ?_
    refine lv_iload_n hx hb dX2_timeOf_12 rfl (lv_at hl 1 rfl) ?_
    refine lv_bipush (v := 40) hx hb dX2_timeOf_13 (by decide) ?_
    refine call_i (wr := [(h1, .inl (cI, 40, .inl et)), (h0, .inr (2, [.int es, .ref h1, .ref h2]))]) (k := 0) (n := 0) (run_S (As := [.int p0, .int 40]) (rest := [.ref h1]) ⟨hx, hb, hml, hown, hts⟩ (mJ9_floorMod_7cf53 l D cI cJ cZ cO p0 40 (by decide) H.size) (va_cwS 2 hts gX2_timeOf_J9_floorMod_7cf53 rfl rfl rfl (by decide +kernel) ⟨Nat.le_of_ble_eq_true rfl, Nat.le_of_ble_eq_true rfl⟩) hK hN hP hD [] (by decide) rfl rfl rfl hl.1 (Nat.le_of_ble_eq_true rfl) dX2_timeOf_15 ⟨Nat.le_of_ble_eq_true rfl, Nat.le_of_ble_eq_true rfl⟩) hP hD hS hA [] [0, 1] rfl rfl (by decide) (by decide) (Nat.le_of_ble_eq_true rfl) (Nat.le_of_ble_eq_true rfl) (fun H locs hP hD hS => ?_)
    have hP : va_P D vwCl [(h1, .inl (cI, 40, .inl et)), (h0, .inr (2, [.int es, .ref h1, .ref h2]))] H := hP
    have hD : va_D A [(h1, .inl (cI, 40, .inl et)), (h0, .inr (2, [.int es, .ref h1, .ref h2]))] := hD
    refine lv_topi (fun x4 ex4 => ?_)
    refine r_ald hx hb hK hP 0 0 rfl rfl (p0.toNatClampNeg % 40) (ex4.trans (fm_mod 40 (ix_of (kept_nn c2)).1 (ix_of (kept_nn c2)).2 (Nat.le_of_ble_eq_true rfl) (Nat.le_of_ble_eq_true rfl))) (Nat.mod_lt _ (Nat.le_of_ble_eq_true rfl)) (Nat.le_of_ble_eq_true rfl) (v := (et (p0.toNatClampNeg % 40))) rfl dX2_timeOf_18 ?_
    refine lv_topi (fun x5 ex5 => ?_)
    refine lv_goto (tgt := 23) hx hb dX2_timeOf_19 (by decide) ?_
    exact K23 _ _ _ _ (by subst ex4; subst ex5; first | with_reducible rfl | (simp only [if_neg c2]; done) | rfl) (hP.sub [0, 1] rfl) (hD.sub [0, 1] (by decide) rfl) hS (lv_sub hl [0, 1] rfl)

def r_X2_causeOf (es : Int32) (ec : Nat → Int32) (p0 : Int32) : Int32 := (if (r_X2_isKept es p0) = 0 then (-1) else (ec (p0.toNatClampNeg % 40)) : Int32)
set_option maxHeartbeats 4000000 in
set_option maxRecDepth 100000 in
theorem mX2_causeOf (l : Launch) (D : va_G) (cI cJ cZ cO : ClassId) (h0 : Nat) (h1 : Nat) (h2 : Nat) (es : Int32) (ec : Nat → Int32) (p0 : Int32) : MI l yX2_causeOf wsX2_causeOf ({ frames := 1, cells := 0, slots := 0, locals := 22 } : Room) D (tysK cI cJ cZ cO) [.ref h0, .int p0] [(h0, .inr (2, [.int es, .ref h1, .ref h2])), (h2, .inl (cI, 40, .inl ec))] (r_X2_causeOf es ec p0) [(h0, .inr (2, [.int es, .ref h1, .ref h2])), (h2, .inl (cI, 40, .inl ec))] := by
  refine MI.of (cc := cX2_causeOf) (maxL := 2) (ret := .int) (by decide) rfl (Nat.le_of_ble_eq_true rfl) rfl ?_
  intro p e s m args below meth c A Q ls H locs B hS hP hD hl hret
  obtain ⟨hx, hb, hml, hown, hts, hK, hN, hA, hlocks⟩ := B
  have hi2 : ∀ w ∈ u_ws RX2 TX2 3, w ∈ wsX2_causeOf := by decide +kernel
  have hl : lv_has ls 2 [(0, .ref h0), (1, .int p0)] := hl
  refine lv_aload_n hx hb dX2_causeOf_0 rfl (lv_at hl 0 rfl) ?_
  refine lv_iload_n hx hb dX2_causeOf_1 rfl (lv_at hl 1 rfl) ?_
  refine call_i (wr := [(h2, .inl (cI, 40, .inl ec))]) (k := 0) (n := 0) (run_V (As := [.int p0]) (rest := []) ⟨hx, hb, hml, hown, hts⟩ (mX2_isKept l D cI cJ cZ cO h0 h1 h2 es p0 H.size) (cwV 1 hts gX2_causeOf_X2_isKept rfl rfl rfl (by decide +kernel) ⟨Nat.le_of_ble_eq_true rfl, Nat.le_of_ble_eq_true rfl⟩) hK hN hP hD [0] (by decide) rfl 2 0 rfl rfl rfl rfl rfl hl.1 (Nat.le_of_ble_eq_true rfl) dX2_causeOf_2 ⟨Nat.le_of_ble_eq_true rfl, Nat.le_of_ble_eq_true rfl⟩) hP hD hS hA [0] [1] rfl rfl (by decide) (by decide) (Nat.le_of_ble_eq_true rfl) (Nat.le_of_ble_eq_true rfl) (fun H locs hP hD hS => ?_)
  have hP : va_P D vwCl [(h2, .inl (cI, 40, .inl ec)), (h0, .inr (2, [.int es, .ref h1, .ref h2]))] H := hP
  have hD : va_D A [(h2, .inl (cI, 40, .inl ec)), (h0, .inr (2, [.int es, .ref h1, .ref h2]))] := hD
  have K23 : ∀ (y3 : Int32) (H : Heap) (locs : List Loc) (ls : Array Slot), y3 = (if (r_X2_isKept es p0) = 0 then (-1) else (ec (p0.toNatClampNeg % 40)) : Int32) → va_P D vwCl [(h2, .inl (cI, 40, .inl ec)), (h0, .inr (2, [.int es, .ref h1, .ref h2]))] H → va_D A [(h2, .inl (cI, 40, .inl ec)), (h0, .inr (2, [.int es, .ref h1, .ref h2]))] → va_S A s.heap H locs → lv_has ls 2 [(0, .ref h0), (1, .int p0)] → W p l e ({ frames := 1, cells := 0, slots := 0, locals := 22 } : Room) s m args below meth c H locs 0 0 Q (F0 m 23 ls [.int y3]) := by
    intro y3 H locs ls ey3 hP hD hS hl
    exact hret _ _ _ _ _ _ _ _ (by subst ey3; first | with_reducible rfl | (simp only [r_X2_causeOf]; done) | rfl) (by subst ey3; first | with_reducible rfl | (simp only [r_X2_causeOf]; done) | rfl) (hP.sub (ws' := [(h0, .inr (2, [.int es, .ref h1, .ref h2])), (h2, .inl (cI, 40, .inl ec))]) [1, 0] rfl) (hD.sub (ws' := [(h0, .inr (2, [.int es, .ref h1, .ref h2])), (h2, .inl (cI, 40, .inl ec))]) [1, 0] (by decide) rfl) hS (Nat.le_of_ble_eq_true rfl) (Nat.le_of_ble_eq_true rfl) dX2_causeOf_23
  refine lv_if_eq (tgt := 22) hx hb dX2_causeOf_5 (by decide) (fun c2 => ?_) (fun c2 => ?_)
  · refine lv_iconst (v := (-1)) hx hb dX2_causeOf_22 (by decide) ?_
    exact K23 _ _ _ _ (by first | with_reducible rfl | (simp only [if_pos c2]; done) | rfl) (hP.sub [0, 1] rfl) (hD.sub [0, 1] (by decide) rfl) hS (lv_sub hl [0, 1] rfl)
  · refine lv_aload_n hx hb dX2_causeOf_8 rfl (lv_at hl 0 rfl) ?_
    refine va_get (D := D) (ci := 2) (v := .ref h2) (C := RX2) (T := TX2) (N := 3) hx hb hts hi2 hown hK hP 1 rfl rfl 2 (by decide) (hts (.fieldLink RX2 19 "GridInverter$Log" "causes" "[I") (by decide +kernel)) (fun _ h9 => h9) rfl dX2_causeOf_9 ?_
    refine lv_iload_n hx hb dX2_causeOf_12 rfl (lv_at hl 1 rfl) ?_
    refine lv_bipush (v := 40) hx hb dX2_causeOf_13 (by decide) ?_
    refine call_i (wr := [(h2, .inl (cI, 40, .inl ec)), (h0, .inr (2, [.int es, .ref h1, .ref h2]))]) (k := 0) (n := 0) (run_S (As := [.int p0, .int 40]) (rest := [.ref h2]) ⟨hx, hb, hml, hown, hts⟩ (mJ9_floorMod_7cf53 l D cI cJ cZ cO p0 40 (by decide) H.size) (va_cwS 2 hts gX2_causeOf_J9_floorMod_7cf53 rfl rfl rfl (by decide +kernel) ⟨Nat.le_of_ble_eq_true rfl, Nat.le_of_ble_eq_true rfl⟩) hK hN hP hD [] (by decide) rfl rfl rfl hl.1 (Nat.le_of_ble_eq_true rfl) dX2_causeOf_15 ⟨Nat.le_of_ble_eq_true rfl, Nat.le_of_ble_eq_true rfl⟩) hP hD hS hA [] [0, 1] rfl rfl (by decide) (by decide) (Nat.le_of_ble_eq_true rfl) (Nat.le_of_ble_eq_true rfl) (fun H locs hP hD hS => ?_)
    have hP : va_P D vwCl [(h2, .inl (cI, 40, .inl ec)), (h0, .inr (2, [.int es, .ref h1, .ref h2]))] H := hP
    have hD : va_D A [(h2, .inl (cI, 40, .inl ec)), (h0, .inr (2, [.int es, .ref h1, .ref h2]))] := hD
    refine lv_topi (fun x4 ex4 => ?_)
    refine r_ald hx hb hK hP 0 0 rfl rfl (p0.toNatClampNeg % 40) (ex4.trans (fm_mod 40 (ix_of (kept_nn c2)).1 (ix_of (kept_nn c2)).2 (Nat.le_of_ble_eq_true rfl) (Nat.le_of_ble_eq_true rfl))) (Nat.mod_lt _ (Nat.le_of_ble_eq_true rfl)) (Nat.le_of_ble_eq_true rfl) (v := (ec (p0.toNatClampNeg % 40))) rfl dX2_causeOf_18 ?_
    refine lv_topi (fun x5 ex5 => ?_)
    refine lv_goto (tgt := 23) hx hb dX2_causeOf_19 (by decide) ?_
    exact K23 _ _ _ _ (by subst ex4; subst ex5; first | with_reducible rfl | (simp only [if_neg c2]; done) | rfl) (hP.sub [0, 1] rfl) (hD.sub [0, 1] (by decide) rfl) hS (lv_sub hl [0, 1] rfl)

set_option maxHeartbeats 4000000 in
set_option maxRecDepth 100000 in
theorem mX1_takeFrom (l : Launch) (D : va_G) (cI cJ cZ cO : ClassId) (h0 : Nat) (k0 : Nat) (vo : Int32) (fr : Int32) (an : Int32) (co : Int32) (gv : Int32) (gf : Int32) (ld : Int32) (re : Int32) (qu : Int32) (vob : Int32) (frb : Int32) (anb : Int32) (cob : Int32) (gvb : Int32) (gfb : Int32) (ldb : Int32) (reb : Int32) (qub : Int32) (hco : narrow .boolean (.int cob) = .int cob) (hcf : fits .boolean (.int cob) = true) : MV l yX1_takeFrom wsX1_takeFrom ({ frames := 1, cells := 0, slots := 0, locals := 23 } : Room) D (tysK cI cJ cZ cO) [.ref h0, .ref k0] [(h0, .inr (1, [.int vo, .int fr, .int an, .int co, .int gv, .int gf, .int ld, .int re, .int qu])), (k0, .inr (1, [.int vob, .int frb, .int anb, .int cob, .int gvb, .int gfb, .int ldb, .int reb, .int qub]))] (fun (_ : Unit) => [(h0, .inr (1, [.int vob, .int frb, .int anb, .int cob, .int gvb, .int gfb, .int ldb, .int reb, .int qub])), (k0, .inr (1, [.int vob, .int frb, .int anb, .int cob, .int gvb, .int gfb, .int ldb, .int reb, .int qub]))]) := by
  refine MV.of (cc := cX1_takeFrom) (maxL := 2) (by decide) rfl (Nat.le_of_ble_eq_true rfl) ?_
  intro p e s m args below meth c A Q ls H locs B hin hS hP hD hl hret
  obtain ⟨hx, hb, hml, hown, hts, hK, hN, hA, hlocks⟩ := B
  have hi1 : ∀ w ∈ u_ws RX1 TX1 9, w ∈ wsX1_takeFrom := by decide +kernel
  have hl : lv_has ls 2 [(0, .ref h0), (1, .ref k0)] := hl
  refine lv_aload_n hx hb dX1_takeFrom_0 rfl (lv_at hl 0 rfl) ?_
  refine lv_aload_n hx hb dX1_takeFrom_1 rfl (lv_at hl 1 rfl) ?_
  refine va_get (D := D) (ci := 1) (v := .int vob) (C := RX1) (T := TX1) (N := 9) hx hb hts hi1 hown hK hP 1 rfl rfl 0 (by decide) (hts (.fieldLink RX1 9 "GridInverter$Line" "voltage" "I") (by decide +kernel)) (fun _ h9 => h9) rfl dX1_takeFrom_2 ?_
  refine va_put (D := D) (ci := 1) (v := .int vob) (ty := .int) (C := RX1) (T := TX1) (N := 9) hx hb hts hi1 tyX1 tyX1_ok nmX1 hown hK hP hD hS 0 rfl rfl 0 (by decide) (hts (.fieldLink RX1 9 "GridInverter$Line" "voltage" "I") (by decide +kernel)) (fun _ h9 => h9) rfl (by decide +kernel) rfl rfl (Nat.le_of_ble_eq_true rfl) dX1_takeFrom_5 (fun H locs hP hD hS => ?_)
  have hP : va_P D vwCl [(h0, .inr (1, [.int vob, .int fr, .int an, .int co, .int gv, .int gf, .int ld, .int re, .int qu])), (k0, .inr (1, [.int vob, .int frb, .int anb, .int cob, .int gvb, .int gfb, .int ldb, .int reb, .int qub]))] H := hP
  have hD : va_D A [(h0, .inr (1, [.int vob, .int fr, .int an, .int co, .int gv, .int gf, .int ld, .int re, .int qu])), (k0, .inr (1, [.int vob, .int frb, .int anb, .int cob, .int gvb, .int gfb, .int ldb, .int reb, .int qub]))] := hD
  refine lv_aload_n hx hb dX1_takeFrom_8 rfl (lv_at hl 0 rfl) ?_
  refine lv_aload_n hx hb dX1_takeFrom_9 rfl (lv_at hl 1 rfl) ?_
  refine va_get (D := D) (ci := 1) (v := .int frb) (C := RX1) (T := TX1) (N := 9) hx hb hts hi1 hown hK hP 1 rfl rfl 1 (by decide) (hts (.fieldLink RX1 16 "GridInverter$Line" "frequency" "I") (by decide +kernel)) (fun _ h9 => h9) rfl dX1_takeFrom_10 ?_
  refine va_put (D := D) (ci := 1) (v := .int frb) (ty := .int) (C := RX1) (T := TX1) (N := 9) hx hb hts hi1 tyX1 tyX1_ok nmX1 hown hK hP hD hS 0 rfl rfl 1 (by decide) (hts (.fieldLink RX1 16 "GridInverter$Line" "frequency" "I") (by decide +kernel)) (fun _ h9 => h9) rfl (by decide +kernel) rfl rfl (Nat.le_of_ble_eq_true rfl) dX1_takeFrom_13 (fun H locs hP hD hS => ?_)
  have hP : va_P D vwCl [(h0, .inr (1, [.int vob, .int frb, .int an, .int co, .int gv, .int gf, .int ld, .int re, .int qu])), (k0, .inr (1, [.int vob, .int frb, .int anb, .int cob, .int gvb, .int gfb, .int ldb, .int reb, .int qub]))] H := hP
  have hD : va_D A [(h0, .inr (1, [.int vob, .int frb, .int an, .int co, .int gv, .int gf, .int ld, .int re, .int qu])), (k0, .inr (1, [.int vob, .int frb, .int anb, .int cob, .int gvb, .int gfb, .int ldb, .int reb, .int qub]))] := hD
  refine lv_aload_n hx hb dX1_takeFrom_16 rfl (lv_at hl 0 rfl) ?_
  refine lv_aload_n hx hb dX1_takeFrom_17 rfl (lv_at hl 1 rfl) ?_
  refine va_get (D := D) (ci := 1) (v := .int anb) (C := RX1) (T := TX1) (N := 9) hx hb hts hi1 hown hK hP 1 rfl rfl 2 (by decide) (hts (.fieldLink RX1 19 "GridInverter$Line" "angle" "I") (by decide +kernel)) (fun _ h9 => h9) rfl dX1_takeFrom_18 ?_
  refine va_put (D := D) (ci := 1) (v := .int anb) (ty := .int) (C := RX1) (T := TX1) (N := 9) hx hb hts hi1 tyX1 tyX1_ok nmX1 hown hK hP hD hS 0 rfl rfl 2 (by decide) (hts (.fieldLink RX1 19 "GridInverter$Line" "angle" "I") (by decide +kernel)) (fun _ h9 => h9) rfl (by decide +kernel) rfl rfl (Nat.le_of_ble_eq_true rfl) dX1_takeFrom_21 (fun H locs hP hD hS => ?_)
  have hP : va_P D vwCl [(h0, .inr (1, [.int vob, .int frb, .int anb, .int co, .int gv, .int gf, .int ld, .int re, .int qu])), (k0, .inr (1, [.int vob, .int frb, .int anb, .int cob, .int gvb, .int gfb, .int ldb, .int reb, .int qub]))] H := hP
  have hD : va_D A [(h0, .inr (1, [.int vob, .int frb, .int anb, .int co, .int gv, .int gf, .int ld, .int re, .int qu])), (k0, .inr (1, [.int vob, .int frb, .int anb, .int cob, .int gvb, .int gfb, .int ldb, .int reb, .int qub]))] := hD
  refine lv_aload_n hx hb dX1_takeFrom_24 rfl (lv_at hl 0 rfl) ?_
  refine lv_aload_n hx hb dX1_takeFrom_25 rfl (lv_at hl 1 rfl) ?_
  refine va_get (D := D) (ci := 1) (v := .int cob) (C := RX1) (T := TX1) (N := 9) hx hb hts hi1 hown hK hP 1 rfl rfl 3 (by decide) (hts (.fieldLink RX1 22 "GridInverter$Line" "connected" "Z") (by decide +kernel)) (fun _ h9 => h9) rfl dX1_takeFrom_26 ?_
  refine va_put (D := D) (ci := 1) (v := .int cob) (ty := .boolean) (C := RX1) (T := TX1) (N := 9) hx hb hts hi1 tyX1 tyX1_ok nmX1 hown hK hP hD hS 0 rfl rfl 3 (by decide) (hts (.fieldLink RX1 22 "GridInverter$Line" "connected" "Z") (by decide +kernel)) (fun _ h9 => h9) rfl (by decide +kernel) hco hcf (Nat.le_of_ble_eq_true rfl) dX1_takeFrom_29 (fun H locs hP hD hS => ?_)
  have hP : va_P D vwCl [(h0, .inr (1, [.int vob, .int frb, .int anb, .int cob, .int gv, .int gf, .int ld, .int re, .int qu])), (k0, .inr (1, [.int vob, .int frb, .int anb, .int cob, .int gvb, .int gfb, .int ldb, .int reb, .int qub]))] H := hP
  have hD : va_D A [(h0, .inr (1, [.int vob, .int frb, .int anb, .int cob, .int gv, .int gf, .int ld, .int re, .int qu])), (k0, .inr (1, [.int vob, .int frb, .int anb, .int cob, .int gvb, .int gfb, .int ldb, .int reb, .int qub]))] := hD
  refine lv_aload_n hx hb dX1_takeFrom_32 rfl (lv_at hl 0 rfl) ?_
  refine lv_aload_n hx hb dX1_takeFrom_33 rfl (lv_at hl 1 rfl) ?_
  refine va_get (D := D) (ci := 1) (v := .int gvb) (C := RX1) (T := TX1) (N := 9) hx hb hts hi1 hown hK hP 1 rfl rfl 4 (by decide) (hts (.fieldLink RX1 26 "GridInverter$Line" "gridVoltage" "I") (by decide +kernel)) (fun _ h9 => h9) rfl dX1_takeFrom_34 ?_
  refine va_put (D := D) (ci := 1) (v := .int gvb) (ty := .int) (C := RX1) (T := TX1) (N := 9) hx hb hts hi1 tyX1 tyX1_ok nmX1 hown hK hP hD hS 0 rfl rfl 4 (by decide) (hts (.fieldLink RX1 26 "GridInverter$Line" "gridVoltage" "I") (by decide +kernel)) (fun _ h9 => h9) rfl (by decide +kernel) rfl rfl (Nat.le_of_ble_eq_true rfl) dX1_takeFrom_37 (fun H locs hP hD hS => ?_)
  have hP : va_P D vwCl [(h0, .inr (1, [.int vob, .int frb, .int anb, .int cob, .int gvb, .int gf, .int ld, .int re, .int qu])), (k0, .inr (1, [.int vob, .int frb, .int anb, .int cob, .int gvb, .int gfb, .int ldb, .int reb, .int qub]))] H := hP
  have hD : va_D A [(h0, .inr (1, [.int vob, .int frb, .int anb, .int cob, .int gvb, .int gf, .int ld, .int re, .int qu])), (k0, .inr (1, [.int vob, .int frb, .int anb, .int cob, .int gvb, .int gfb, .int ldb, .int reb, .int qub]))] := hD
  refine lv_aload_n hx hb dX1_takeFrom_40 rfl (lv_at hl 0 rfl) ?_
  refine lv_aload_n hx hb dX1_takeFrom_41 rfl (lv_at hl 1 rfl) ?_
  refine va_get (D := D) (ci := 1) (v := .int gfb) (C := RX1) (T := TX1) (N := 9) hx hb hts hi1 hown hK hP 1 rfl rfl 5 (by decide) (hts (.fieldLink RX1 29 "GridInverter$Line" "gridFrequency" "I") (by decide +kernel)) (fun _ h9 => h9) rfl dX1_takeFrom_42 ?_
  refine va_put (D := D) (ci := 1) (v := .int gfb) (ty := .int) (C := RX1) (T := TX1) (N := 9) hx hb hts hi1 tyX1 tyX1_ok nmX1 hown hK hP hD hS 0 rfl rfl 5 (by decide) (hts (.fieldLink RX1 29 "GridInverter$Line" "gridFrequency" "I") (by decide +kernel)) (fun _ h9 => h9) rfl (by decide +kernel) rfl rfl (Nat.le_of_ble_eq_true rfl) dX1_takeFrom_45 (fun H locs hP hD hS => ?_)
  have hP : va_P D vwCl [(h0, .inr (1, [.int vob, .int frb, .int anb, .int cob, .int gvb, .int gfb, .int ld, .int re, .int qu])), (k0, .inr (1, [.int vob, .int frb, .int anb, .int cob, .int gvb, .int gfb, .int ldb, .int reb, .int qub]))] H := hP
  have hD : va_D A [(h0, .inr (1, [.int vob, .int frb, .int anb, .int cob, .int gvb, .int gfb, .int ld, .int re, .int qu])), (k0, .inr (1, [.int vob, .int frb, .int anb, .int cob, .int gvb, .int gfb, .int ldb, .int reb, .int qub]))] := hD
  refine lv_aload_n hx hb dX1_takeFrom_48 rfl (lv_at hl 0 rfl) ?_
  refine lv_aload_n hx hb dX1_takeFrom_49 rfl (lv_at hl 1 rfl) ?_
  refine va_get (D := D) (ci := 1) (v := .int ldb) (C := RX1) (T := TX1) (N := 9) hx hb hts hi1 hown hK hP 1 rfl rfl 6 (by decide) (hts (.fieldLink RX1 32 "GridInverter$Line" "load" "I") (by decide +kernel)) (fun _ h9 => h9) rfl dX1_takeFrom_50 ?_
  refine lv_aload_n hx hb dX1_takeFrom_53 rfl (lv_at hl 1 rfl) ?_
  refine va_get (D := D) (ci := 1) (v := .int reb) (C := RX1) (T := TX1) (N := 9) hx hb hts hi1 hown hK hP 1 rfl rfl 7 (by decide) (hts (.fieldLink RX1 35 "GridInverter$Line" "resonance" "I") (by decide +kernel)) (fun _ h9 => h9) rfl dX1_takeFrom_54 ?_
  refine lv_aload_n hx hb dX1_takeFrom_57 rfl (lv_at hl 1 rfl) ?_
  refine va_get (D := D) (ci := 1) (v := .int qub) (C := RX1) (T := TX1) (N := 9) hx hb hts hi1 hown hK hP 1 rfl rfl 8 (by decide) (hts (.fieldLink RX1 38 "GridInverter$Line" "quality" "I") (by decide +kernel)) (fun _ h9 => h9) rfl dX1_takeFrom_58 ?_
  refine call_v (wr := [(k0, .inr (1, [.int vob, .int frb, .int anb, .int cob, .int gvb, .int gfb, .int ldb, .int reb, .int qub]))]) (k := 0) (n := 0) (run_V (As := [.int ldb, .int reb, .int qub]) (rest := []) ⟨hx, hb, hml, hown, hts⟩ (mX1_becomeIsland l D cI cJ cZ cO h0 vob frb anb cob gvb gfb ld re qu ldb reb qub H.size) (cwV 3 hts gX1_takeFrom_X1_becomeIsland rfl rfl rfl (by decide +kernel) ⟨Nat.le_of_ble_eq_true rfl, Nat.le_of_ble_eq_true rfl⟩) hK hN hP hD [0] (by decide) rfl 1 0 rfl rfl rfl rfl rfl hl.1 (Nat.le_of_ble_eq_true rfl) dX1_takeFrom_61 ⟨Nat.le_of_ble_eq_true rfl, Nat.le_of_ble_eq_true rfl⟩) hP hD hS hA [0] [1] rfl rfl (by decide) (by decide) (Nat.le_of_ble_eq_true rfl) (Nat.le_of_ble_eq_true rfl) (fun _ H locs hP hD hS => ?_)
  have hP : va_P D vwCl [(k0, .inr (1, [.int vob, .int frb, .int anb, .int cob, .int gvb, .int gfb, .int ldb, .int reb, .int qub])), (h0, .inr (1, [.int vob, .int frb, .int anb, .int cob, .int gvb, .int gfb, .int ldb, .int reb, .int qub]))] H := hP
  have hD : va_D A [(k0, .inr (1, [.int vob, .int frb, .int anb, .int cob, .int gvb, .int gfb, .int ldb, .int reb, .int qub])), (h0, .inr (1, [.int vob, .int frb, .int anb, .int cob, .int gvb, .int gfb, .int ldb, .int reb, .int qub]))] := hD
  exact hret () _ _ _ _ _ _ _ (by first | with_reducible rfl | (simp only []; done) | rfl) (hP.sub (ws' := [(h0, .inr (1, [.int vob, .int frb, .int anb, .int cob, .int gvb, .int gfb, .int ldb, .int reb, .int qub])), (k0, .inr (1, [.int vob, .int frb, .int anb, .int cob, .int gvb, .int gfb, .int ldb, .int reb, .int qub]))]) [1, 0] rfl) (hD.sub (ws' := [(h0, .inr (1, [.int vob, .int frb, .int anb, .int cob, .int gvb, .int gfb, .int ldb, .int reb, .int qub])), (k0, .inr (1, [.int vob, .int frb, .int anb, .int cob, .int gvb, .int gfb, .int ldb, .int reb, .int qub]))]) [1, 0] (by decide) rfl) hS (Nat.le_of_ble_eq_true rfl) (Nat.le_of_ble_eq_true rfl) dX1_takeFrom_64

set_option maxHeartbeats 4000000 in
set_option maxRecDepth 100000 in
theorem mX0_takeFrom (l : Launch) (D : va_G) (cI cJ cZ cO : ClassId) (h0 : Nat) (k0 : Nat) (mo : Int32) (po : Int32) (ra : Int32) (de : Int32) (rp : Int32) (rc : Int32) (lV : Int32) (hV : Int32) (lF : Int32) (hF : Int32) (sh : Int32) (ga : Int32) (en : Int64) (rt : Int32) (mob : Int32) (pob : Int32) (rab : Int32) (deb : Int32) (rpb : Int32) (rcb : Int32) (lVb : Int32) (hVb : Int32) (lFb : Int32) (hFb : Int32) (shb : Int32) (gab : Int32) (enb : Int64) (rtb : Int32) : MV l yX0_takeFrom wsX0_takeFrom ({ frames := 0, cells := 0, slots := 0, locals := 0 } : Room) D (tysK cI cJ cZ cO) [.ref h0, .ref k0] [(h0, .inr (0, [.int mo, .int po, .int ra, .int de, .int rp, .int rc, .int lV, .int hV, .int lF, .int hF, .int sh, .int ga, .long en, .int rt])), (k0, .inr (0, [.int mob, .int pob, .int rab, .int deb, .int rpb, .int rcb, .int lVb, .int hVb, .int lFb, .int hFb, .int shb, .int gab, .long enb, .int rtb]))] (fun (_ : Unit) => [(h0, .inr (0, [.int mob, .int pob, .int rab, .int deb, .int rpb, .int rcb, .int lVb, .int hVb, .int lFb, .int hFb, .int shb, .int gab, .long enb, .int rtb])), (k0, .inr (0, [.int mob, .int pob, .int rab, .int deb, .int rpb, .int rcb, .int lVb, .int hVb, .int lFb, .int hFb, .int shb, .int gab, .long enb, .int rtb]))]) := by
  refine MV.of (cc := cX0_takeFrom) (maxL := 2) (by decide) rfl (Nat.le_of_ble_eq_true rfl) ?_
  intro p e s m args below meth c A Q ls H locs B hin hS hP hD hl hret
  obtain ⟨hx, hb, hml, hown, hts, hK, hN, hA, hlocks⟩ := B
  have hi0 : ∀ w ∈ u_ws RX0 TX0 14, w ∈ wsX0_takeFrom := by decide +kernel
  have hl : lv_has ls 2 [(0, .ref h0), (1, .ref k0)] := hl
  refine lv_aload_n hx hb dX0_takeFrom_0 rfl (lv_at hl 0 rfl) ?_
  refine lv_aload_n hx hb dX0_takeFrom_1 rfl (lv_at hl 1 rfl) ?_
  refine va_get (D := D) (ci := 0) (v := .int mob) (C := RX0) (T := TX0) (N := 14) hx hb hts hi0 hown hK hP 1 rfl rfl 0 (by decide) (hts (.fieldLink RX0 9 "GridInverter$Inverter" "mode" "I") (by decide +kernel)) (fun _ h9 => h9) rfl dX0_takeFrom_2 ?_
  refine va_put (D := D) (ci := 0) (v := .int mob) (ty := .int) (C := RX0) (T := TX0) (N := 14) hx hb hts hi0 tyX0 tyX0_ok nmX0 hown hK hP hD hS 0 rfl rfl 0 (by decide) (hts (.fieldLink RX0 9 "GridInverter$Inverter" "mode" "I") (by decide +kernel)) (fun _ h9 => h9) rfl (by decide +kernel) rfl rfl (Nat.le_of_ble_eq_true rfl) dX0_takeFrom_5 (fun H locs hP hD hS => ?_)
  have hP : va_P D vwCl [(h0, .inr (0, [.int mob, .int po, .int ra, .int de, .int rp, .int rc, .int lV, .int hV, .int lF, .int hF, .int sh, .int ga, .long en, .int rt])), (k0, .inr (0, [.int mob, .int pob, .int rab, .int deb, .int rpb, .int rcb, .int lVb, .int hVb, .int lFb, .int hFb, .int shb, .int gab, .long enb, .int rtb]))] H := hP
  have hD : va_D A [(h0, .inr (0, [.int mob, .int po, .int ra, .int de, .int rp, .int rc, .int lV, .int hV, .int lF, .int hF, .int sh, .int ga, .long en, .int rt])), (k0, .inr (0, [.int mob, .int pob, .int rab, .int deb, .int rpb, .int rcb, .int lVb, .int hVb, .int lFb, .int hFb, .int shb, .int gab, .long enb, .int rtb]))] := hD
  refine lv_aload_n hx hb dX0_takeFrom_8 rfl (lv_at hl 0 rfl) ?_
  refine lv_aload_n hx hb dX0_takeFrom_9 rfl (lv_at hl 1 rfl) ?_
  refine va_get (D := D) (ci := 0) (v := .int pob) (C := RX0) (T := TX0) (N := 14) hx hb hts hi0 hown hK hP 1 rfl rfl 1 (by decide) (hts (.fieldLink RX0 15 "GridInverter$Inverter" "power" "I") (by decide +kernel)) (fun _ h9 => h9) rfl dX0_takeFrom_10 ?_
  refine va_put (D := D) (ci := 0) (v := .int pob) (ty := .int) (C := RX0) (T := TX0) (N := 14) hx hb hts hi0 tyX0 tyX0_ok nmX0 hown hK hP hD hS 0 rfl rfl 1 (by decide) (hts (.fieldLink RX0 15 "GridInverter$Inverter" "power" "I") (by decide +kernel)) (fun _ h9 => h9) rfl (by decide +kernel) rfl rfl (Nat.le_of_ble_eq_true rfl) dX0_takeFrom_13 (fun H locs hP hD hS => ?_)
  have hP : va_P D vwCl [(h0, .inr (0, [.int mob, .int pob, .int ra, .int de, .int rp, .int rc, .int lV, .int hV, .int lF, .int hF, .int sh, .int ga, .long en, .int rt])), (k0, .inr (0, [.int mob, .int pob, .int rab, .int deb, .int rpb, .int rcb, .int lVb, .int hVb, .int lFb, .int hFb, .int shb, .int gab, .long enb, .int rtb]))] H := hP
  have hD : va_D A [(h0, .inr (0, [.int mob, .int pob, .int ra, .int de, .int rp, .int rc, .int lV, .int hV, .int lF, .int hF, .int sh, .int ga, .long en, .int rt])), (k0, .inr (0, [.int mob, .int pob, .int rab, .int deb, .int rpb, .int rcb, .int lVb, .int hVb, .int lFb, .int hFb, .int shb, .int gab, .long enb, .int rtb]))] := hD
  refine lv_aload_n hx hb dX0_takeFrom_16 rfl (lv_at hl 0 rfl) ?_
  refine lv_aload_n hx hb dX0_takeFrom_17 rfl (lv_at hl 1 rfl) ?_
  refine va_get (D := D) (ci := 0) (v := .int rab) (C := RX0) (T := TX0) (N := 14) hx hb hts hi0 hown hK hP 1 rfl rfl 2 (by decide) (hts (.fieldLink RX0 18 "GridInverter$Inverter" "rating" "I") (by decide +kernel)) (fun _ h9 => h9) rfl dX0_takeFrom_18 ?_
  refine va_put (D := D) (ci := 0) (v := .int rab) (ty := .int) (C := RX0) (T := TX0) (N := 14) hx hb hts hi0 tyX0 tyX0_ok nmX0 hown hK hP hD hS 0 rfl rfl 2 (by decide) (hts (.fieldLink RX0 18 "GridInverter$Inverter" "rating" "I") (by decide +kernel)) (fun _ h9 => h9) rfl (by decide +kernel) rfl rfl (Nat.le_of_ble_eq_true rfl) dX0_takeFrom_21 (fun H locs hP hD hS => ?_)
  have hP : va_P D vwCl [(h0, .inr (0, [.int mob, .int pob, .int rab, .int de, .int rp, .int rc, .int lV, .int hV, .int lF, .int hF, .int sh, .int ga, .long en, .int rt])), (k0, .inr (0, [.int mob, .int pob, .int rab, .int deb, .int rpb, .int rcb, .int lVb, .int hVb, .int lFb, .int hFb, .int shb, .int gab, .long enb, .int rtb]))] H := hP
  have hD : va_D A [(h0, .inr (0, [.int mob, .int pob, .int rab, .int de, .int rp, .int rc, .int lV, .int hV, .int lF, .int hF, .int sh, .int ga, .long en, .int rt])), (k0, .inr (0, [.int mob, .int pob, .int rab, .int deb, .int rpb, .int rcb, .int lVb, .int hVb, .int lFb, .int hFb, .int shb, .int gab, .long enb, .int rtb]))] := hD
  refine lv_aload_n hx hb dX0_takeFrom_24 rfl (lv_at hl 0 rfl) ?_
  refine lv_aload_n hx hb dX0_takeFrom_25 rfl (lv_at hl 1 rfl) ?_
  refine va_get (D := D) (ci := 0) (v := .int deb) (C := RX0) (T := TX0) (N := 14) hx hb hts hi0 hown hK hP 1 rfl rfl 3 (by decide) (hts (.fieldLink RX0 21 "GridInverter$Inverter" "delay" "I") (by decide +kernel)) (fun _ h9 => h9) rfl dX0_takeFrom_26 ?_
  refine va_put (D := D) (ci := 0) (v := .int deb) (ty := .int) (C := RX0) (T := TX0) (N := 14) hx hb hts hi0 tyX0 tyX0_ok nmX0 hown hK hP hD hS 0 rfl rfl 3 (by decide) (hts (.fieldLink RX0 21 "GridInverter$Inverter" "delay" "I") (by decide +kernel)) (fun _ h9 => h9) rfl (by decide +kernel) rfl rfl (Nat.le_of_ble_eq_true rfl) dX0_takeFrom_29 (fun H locs hP hD hS => ?_)
  have hP : va_P D vwCl [(h0, .inr (0, [.int mob, .int pob, .int rab, .int deb, .int rp, .int rc, .int lV, .int hV, .int lF, .int hF, .int sh, .int ga, .long en, .int rt])), (k0, .inr (0, [.int mob, .int pob, .int rab, .int deb, .int rpb, .int rcb, .int lVb, .int hVb, .int lFb, .int hFb, .int shb, .int gab, .long enb, .int rtb]))] H := hP
  have hD : va_D A [(h0, .inr (0, [.int mob, .int pob, .int rab, .int deb, .int rp, .int rc, .int lV, .int hV, .int lF, .int hF, .int sh, .int ga, .long en, .int rt])), (k0, .inr (0, [.int mob, .int pob, .int rab, .int deb, .int rpb, .int rcb, .int lVb, .int hVb, .int lFb, .int hFb, .int shb, .int gab, .long enb, .int rtb]))] := hD
  refine lv_aload_n hx hb dX0_takeFrom_32 rfl (lv_at hl 0 rfl) ?_
  refine lv_aload_n hx hb dX0_takeFrom_33 rfl (lv_at hl 1 rfl) ?_
  refine va_get (D := D) (ci := 0) (v := .int rpb) (C := RX0) (T := TX0) (N := 14) hx hb hts hi0 hown hK hP 1 rfl rfl 4 (by decide) (hts (.fieldLink RX0 24 "GridInverter$Inverter" "ramp" "I") (by decide +kernel)) (fun _ h9 => h9) rfl dX0_takeFrom_34 ?_
  refine va_put (D := D) (ci := 0) (v := .int rpb) (ty := .int) (C := RX0) (T := TX0) (N := 14) hx hb hts hi0 tyX0 tyX0_ok nmX0 hown hK hP hD hS 0 rfl rfl 4 (by decide) (hts (.fieldLink RX0 24 "GridInverter$Inverter" "ramp" "I") (by decide +kernel)) (fun _ h9 => h9) rfl (by decide +kernel) rfl rfl (Nat.le_of_ble_eq_true rfl) dX0_takeFrom_37 (fun H locs hP hD hS => ?_)
  have hP : va_P D vwCl [(h0, .inr (0, [.int mob, .int pob, .int rab, .int deb, .int rpb, .int rc, .int lV, .int hV, .int lF, .int hF, .int sh, .int ga, .long en, .int rt])), (k0, .inr (0, [.int mob, .int pob, .int rab, .int deb, .int rpb, .int rcb, .int lVb, .int hVb, .int lFb, .int hFb, .int shb, .int gab, .long enb, .int rtb]))] H := hP
  have hD : va_D A [(h0, .inr (0, [.int mob, .int pob, .int rab, .int deb, .int rpb, .int rc, .int lV, .int hV, .int lF, .int hF, .int sh, .int ga, .long en, .int rt])), (k0, .inr (0, [.int mob, .int pob, .int rab, .int deb, .int rpb, .int rcb, .int lVb, .int hVb, .int lFb, .int hFb, .int shb, .int gab, .long enb, .int rtb]))] := hD
  refine lv_aload_n hx hb dX0_takeFrom_40 rfl (lv_at hl 0 rfl) ?_
  refine lv_aload_n hx hb dX0_takeFrom_41 rfl (lv_at hl 1 rfl) ?_
  refine va_get (D := D) (ci := 0) (v := .int rcb) (C := RX0) (T := TX0) (N := 14) hx hb hts hi0 hown hK hP 1 rfl rfl 5 (by decide) (hts (.fieldLink RX0 27 "GridInverter$Inverter" "readyCount" "I") (by decide +kernel)) (fun _ h9 => h9) rfl dX0_takeFrom_42 ?_
  refine va_put (D := D) (ci := 0) (v := .int rcb) (ty := .int) (C := RX0) (T := TX0) (N := 14) hx hb hts hi0 tyX0 tyX0_ok nmX0 hown hK hP hD hS 0 rfl rfl 5 (by decide) (hts (.fieldLink RX0 27 "GridInverter$Inverter" "readyCount" "I") (by decide +kernel)) (fun _ h9 => h9) rfl (by decide +kernel) rfl rfl (Nat.le_of_ble_eq_true rfl) dX0_takeFrom_45 (fun H locs hP hD hS => ?_)
  have hP : va_P D vwCl [(h0, .inr (0, [.int mob, .int pob, .int rab, .int deb, .int rpb, .int rcb, .int lV, .int hV, .int lF, .int hF, .int sh, .int ga, .long en, .int rt])), (k0, .inr (0, [.int mob, .int pob, .int rab, .int deb, .int rpb, .int rcb, .int lVb, .int hVb, .int lFb, .int hFb, .int shb, .int gab, .long enb, .int rtb]))] H := hP
  have hD : va_D A [(h0, .inr (0, [.int mob, .int pob, .int rab, .int deb, .int rpb, .int rcb, .int lV, .int hV, .int lF, .int hF, .int sh, .int ga, .long en, .int rt])), (k0, .inr (0, [.int mob, .int pob, .int rab, .int deb, .int rpb, .int rcb, .int lVb, .int hVb, .int lFb, .int hFb, .int shb, .int gab, .long enb, .int rtb]))] := hD
  refine lv_aload_n hx hb dX0_takeFrom_48 rfl (lv_at hl 0 rfl) ?_
  refine lv_aload_n hx hb dX0_takeFrom_49 rfl (lv_at hl 1 rfl) ?_
  refine va_get (D := D) (ci := 0) (v := .int lVb) (C := RX0) (T := TX0) (N := 14) hx hb hts hi0 hown hK hP 1 rfl rfl 6 (by decide) (hts (.fieldLink RX0 30 "GridInverter$Inverter" "lowVoltage" "I") (by decide +kernel)) (fun _ h9 => h9) rfl dX0_takeFrom_50 ?_
  refine va_put (D := D) (ci := 0) (v := .int lVb) (ty := .int) (C := RX0) (T := TX0) (N := 14) hx hb hts hi0 tyX0 tyX0_ok nmX0 hown hK hP hD hS 0 rfl rfl 6 (by decide) (hts (.fieldLink RX0 30 "GridInverter$Inverter" "lowVoltage" "I") (by decide +kernel)) (fun _ h9 => h9) rfl (by decide +kernel) rfl rfl (Nat.le_of_ble_eq_true rfl) dX0_takeFrom_53 (fun H locs hP hD hS => ?_)
  have hP : va_P D vwCl [(h0, .inr (0, [.int mob, .int pob, .int rab, .int deb, .int rpb, .int rcb, .int lVb, .int hV, .int lF, .int hF, .int sh, .int ga, .long en, .int rt])), (k0, .inr (0, [.int mob, .int pob, .int rab, .int deb, .int rpb, .int rcb, .int lVb, .int hVb, .int lFb, .int hFb, .int shb, .int gab, .long enb, .int rtb]))] H := hP
  have hD : va_D A [(h0, .inr (0, [.int mob, .int pob, .int rab, .int deb, .int rpb, .int rcb, .int lVb, .int hV, .int lF, .int hF, .int sh, .int ga, .long en, .int rt])), (k0, .inr (0, [.int mob, .int pob, .int rab, .int deb, .int rpb, .int rcb, .int lVb, .int hVb, .int lFb, .int hFb, .int shb, .int gab, .long enb, .int rtb]))] := hD
  refine lv_aload_n hx hb dX0_takeFrom_56 rfl (lv_at hl 0 rfl) ?_
  refine lv_aload_n hx hb dX0_takeFrom_57 rfl (lv_at hl 1 rfl) ?_
  refine va_get (D := D) (ci := 0) (v := .int hVb) (C := RX0) (T := TX0) (N := 14) hx hb hts hi0 hown hK hP 1 rfl rfl 7 (by decide) (hts (.fieldLink RX0 33 "GridInverter$Inverter" "highVoltage" "I") (by decide +kernel)) (fun _ h9 => h9) rfl dX0_takeFrom_58 ?_
  refine va_put (D := D) (ci := 0) (v := .int hVb) (ty := .int) (C := RX0) (T := TX0) (N := 14) hx hb hts hi0 tyX0 tyX0_ok nmX0 hown hK hP hD hS 0 rfl rfl 7 (by decide) (hts (.fieldLink RX0 33 "GridInverter$Inverter" "highVoltage" "I") (by decide +kernel)) (fun _ h9 => h9) rfl (by decide +kernel) rfl rfl (Nat.le_of_ble_eq_true rfl) dX0_takeFrom_61 (fun H locs hP hD hS => ?_)
  have hP : va_P D vwCl [(h0, .inr (0, [.int mob, .int pob, .int rab, .int deb, .int rpb, .int rcb, .int lVb, .int hVb, .int lF, .int hF, .int sh, .int ga, .long en, .int rt])), (k0, .inr (0, [.int mob, .int pob, .int rab, .int deb, .int rpb, .int rcb, .int lVb, .int hVb, .int lFb, .int hFb, .int shb, .int gab, .long enb, .int rtb]))] H := hP
  have hD : va_D A [(h0, .inr (0, [.int mob, .int pob, .int rab, .int deb, .int rpb, .int rcb, .int lVb, .int hVb, .int lF, .int hF, .int sh, .int ga, .long en, .int rt])), (k0, .inr (0, [.int mob, .int pob, .int rab, .int deb, .int rpb, .int rcb, .int lVb, .int hVb, .int lFb, .int hFb, .int shb, .int gab, .long enb, .int rtb]))] := hD
  refine lv_aload_n hx hb dX0_takeFrom_64 rfl (lv_at hl 0 rfl) ?_
  refine lv_aload_n hx hb dX0_takeFrom_65 rfl (lv_at hl 1 rfl) ?_
  refine va_get (D := D) (ci := 0) (v := .int lFb) (C := RX0) (T := TX0) (N := 14) hx hb hts hi0 hown hK hP 1 rfl rfl 8 (by decide) (hts (.fieldLink RX0 37 "GridInverter$Inverter" "lowFrequency" "I") (by decide +kernel)) (fun _ h9 => h9) rfl dX0_takeFrom_66 ?_
  refine va_put (D := D) (ci := 0) (v := .int lFb) (ty := .int) (C := RX0) (T := TX0) (N := 14) hx hb hts hi0 tyX0 tyX0_ok nmX0 hown hK hP hD hS 0 rfl rfl 8 (by decide) (hts (.fieldLink RX0 37 "GridInverter$Inverter" "lowFrequency" "I") (by decide +kernel)) (fun _ h9 => h9) rfl (by decide +kernel) rfl rfl (Nat.le_of_ble_eq_true rfl) dX0_takeFrom_69 (fun H locs hP hD hS => ?_)
  have hP : va_P D vwCl [(h0, .inr (0, [.int mob, .int pob, .int rab, .int deb, .int rpb, .int rcb, .int lVb, .int hVb, .int lFb, .int hF, .int sh, .int ga, .long en, .int rt])), (k0, .inr (0, [.int mob, .int pob, .int rab, .int deb, .int rpb, .int rcb, .int lVb, .int hVb, .int lFb, .int hFb, .int shb, .int gab, .long enb, .int rtb]))] H := hP
  have hD : va_D A [(h0, .inr (0, [.int mob, .int pob, .int rab, .int deb, .int rpb, .int rcb, .int lVb, .int hVb, .int lFb, .int hF, .int sh, .int ga, .long en, .int rt])), (k0, .inr (0, [.int mob, .int pob, .int rab, .int deb, .int rpb, .int rcb, .int lVb, .int hVb, .int lFb, .int hFb, .int shb, .int gab, .long enb, .int rtb]))] := hD
  refine lv_aload_n hx hb dX0_takeFrom_72 rfl (lv_at hl 0 rfl) ?_
  refine lv_aload_n hx hb dX0_takeFrom_73 rfl (lv_at hl 1 rfl) ?_
  refine va_get (D := D) (ci := 0) (v := .int hFb) (C := RX0) (T := TX0) (N := 14) hx hb hts hi0 hown hK hP 1 rfl rfl 9 (by decide) (hts (.fieldLink RX0 41 "GridInverter$Inverter" "highFrequency" "I") (by decide +kernel)) (fun _ h9 => h9) rfl dX0_takeFrom_74 ?_
  refine va_put (D := D) (ci := 0) (v := .int hFb) (ty := .int) (C := RX0) (T := TX0) (N := 14) hx hb hts hi0 tyX0 tyX0_ok nmX0 hown hK hP hD hS 0 rfl rfl 9 (by decide) (hts (.fieldLink RX0 41 "GridInverter$Inverter" "highFrequency" "I") (by decide +kernel)) (fun _ h9 => h9) rfl (by decide +kernel) rfl rfl (Nat.le_of_ble_eq_true rfl) dX0_takeFrom_77 (fun H locs hP hD hS => ?_)
  have hP : va_P D vwCl [(h0, .inr (0, [.int mob, .int pob, .int rab, .int deb, .int rpb, .int rcb, .int lVb, .int hVb, .int lFb, .int hFb, .int sh, .int ga, .long en, .int rt])), (k0, .inr (0, [.int mob, .int pob, .int rab, .int deb, .int rpb, .int rcb, .int lVb, .int hVb, .int lFb, .int hFb, .int shb, .int gab, .long enb, .int rtb]))] H := hP
  have hD : va_D A [(h0, .inr (0, [.int mob, .int pob, .int rab, .int deb, .int rpb, .int rcb, .int lVb, .int hVb, .int lFb, .int hFb, .int sh, .int ga, .long en, .int rt])), (k0, .inr (0, [.int mob, .int pob, .int rab, .int deb, .int rpb, .int rcb, .int lVb, .int hVb, .int lFb, .int hFb, .int shb, .int gab, .long enb, .int rtb]))] := hD
  refine lv_aload_n hx hb dX0_takeFrom_80 rfl (lv_at hl 0 rfl) ?_
  refine lv_aload_n hx hb dX0_takeFrom_81 rfl (lv_at hl 1 rfl) ?_
  refine va_get (D := D) (ci := 0) (v := .int shb) (C := RX0) (T := TX0) (N := 14) hx hb hts hi0 hown hK hP 1 rfl rfl 10 (by decide) (hts (.fieldLink RX0 44 "GridInverter$Inverter" "shift" "I") (by decide +kernel)) (fun _ h9 => h9) rfl dX0_takeFrom_82 ?_
  refine va_put (D := D) (ci := 0) (v := .int shb) (ty := .int) (C := RX0) (T := TX0) (N := 14) hx hb hts hi0 tyX0 tyX0_ok nmX0 hown hK hP hD hS 0 rfl rfl 10 (by decide) (hts (.fieldLink RX0 44 "GridInverter$Inverter" "shift" "I") (by decide +kernel)) (fun _ h9 => h9) rfl (by decide +kernel) rfl rfl (Nat.le_of_ble_eq_true rfl) dX0_takeFrom_85 (fun H locs hP hD hS => ?_)
  have hP : va_P D vwCl [(h0, .inr (0, [.int mob, .int pob, .int rab, .int deb, .int rpb, .int rcb, .int lVb, .int hVb, .int lFb, .int hFb, .int shb, .int ga, .long en, .int rt])), (k0, .inr (0, [.int mob, .int pob, .int rab, .int deb, .int rpb, .int rcb, .int lVb, .int hVb, .int lFb, .int hFb, .int shb, .int gab, .long enb, .int rtb]))] H := hP
  have hD : va_D A [(h0, .inr (0, [.int mob, .int pob, .int rab, .int deb, .int rpb, .int rcb, .int lVb, .int hVb, .int lFb, .int hFb, .int shb, .int ga, .long en, .int rt])), (k0, .inr (0, [.int mob, .int pob, .int rab, .int deb, .int rpb, .int rcb, .int lVb, .int hVb, .int lFb, .int hFb, .int shb, .int gab, .long enb, .int rtb]))] := hD
  refine lv_aload_n hx hb dX0_takeFrom_88 rfl (lv_at hl 0 rfl) ?_
  refine lv_aload_n hx hb dX0_takeFrom_89 rfl (lv_at hl 1 rfl) ?_
  refine va_get (D := D) (ci := 0) (v := .int gab) (C := RX0) (T := TX0) (N := 14) hx hb hts hi0 hown hK hP 1 rfl rfl 11 (by decide) (hts (.fieldLink RX0 47 "GridInverter$Inverter" "gain" "I") (by decide +kernel)) (fun _ h9 => h9) rfl dX0_takeFrom_90 ?_
  refine va_put (D := D) (ci := 0) (v := .int gab) (ty := .int) (C := RX0) (T := TX0) (N := 14) hx hb hts hi0 tyX0 tyX0_ok nmX0 hown hK hP hD hS 0 rfl rfl 11 (by decide) (hts (.fieldLink RX0 47 "GridInverter$Inverter" "gain" "I") (by decide +kernel)) (fun _ h9 => h9) rfl (by decide +kernel) rfl rfl (Nat.le_of_ble_eq_true rfl) dX0_takeFrom_93 (fun H locs hP hD hS => ?_)
  have hP : va_P D vwCl [(h0, .inr (0, [.int mob, .int pob, .int rab, .int deb, .int rpb, .int rcb, .int lVb, .int hVb, .int lFb, .int hFb, .int shb, .int gab, .long en, .int rt])), (k0, .inr (0, [.int mob, .int pob, .int rab, .int deb, .int rpb, .int rcb, .int lVb, .int hVb, .int lFb, .int hFb, .int shb, .int gab, .long enb, .int rtb]))] H := hP
  have hD : va_D A [(h0, .inr (0, [.int mob, .int pob, .int rab, .int deb, .int rpb, .int rcb, .int lVb, .int hVb, .int lFb, .int hFb, .int shb, .int gab, .long en, .int rt])), (k0, .inr (0, [.int mob, .int pob, .int rab, .int deb, .int rpb, .int rcb, .int lVb, .int hVb, .int lFb, .int hFb, .int shb, .int gab, .long enb, .int rtb]))] := hD
  refine lv_aload_n hx hb dX0_takeFrom_96 rfl (lv_at hl 0 rfl) ?_
  refine lv_aload_n hx hb dX0_takeFrom_97 rfl (lv_at hl 1 rfl) ?_
  refine va_get (D := D) (ci := 0) (v := .long enb) (C := RX0) (T := TX0) (N := 14) hx hb hts hi0 hown hK hP 1 rfl rfl 12 (by decide) (hts (.fieldLink RX0 50 "GridInverter$Inverter" "energy" "J") (by decide +kernel)) (fun _ h9 => h9) rfl dX0_takeFrom_98 ?_
  refine va_put (D := D) (ci := 0) (v := .long enb) (ty := .long) (C := RX0) (T := TX0) (N := 14) hx hb hts hi0 tyX0 tyX0_ok nmX0 hown hK hP hD hS 0 rfl rfl 12 (by decide) (hts (.fieldLink RX0 50 "GridInverter$Inverter" "energy" "J") (by decide +kernel)) (fun _ h9 => h9) rfl (by decide +kernel) rfl rfl (Nat.le_of_ble_eq_true rfl) dX0_takeFrom_101 (fun H locs hP hD hS => ?_)
  have hP : va_P D vwCl [(h0, .inr (0, [.int mob, .int pob, .int rab, .int deb, .int rpb, .int rcb, .int lVb, .int hVb, .int lFb, .int hFb, .int shb, .int gab, .long enb, .int rt])), (k0, .inr (0, [.int mob, .int pob, .int rab, .int deb, .int rpb, .int rcb, .int lVb, .int hVb, .int lFb, .int hFb, .int shb, .int gab, .long enb, .int rtb]))] H := hP
  have hD : va_D A [(h0, .inr (0, [.int mob, .int pob, .int rab, .int deb, .int rpb, .int rcb, .int lVb, .int hVb, .int lFb, .int hFb, .int shb, .int gab, .long enb, .int rt])), (k0, .inr (0, [.int mob, .int pob, .int rab, .int deb, .int rpb, .int rcb, .int lVb, .int hVb, .int lFb, .int hFb, .int shb, .int gab, .long enb, .int rtb]))] := hD
  refine lv_aload_n hx hb dX0_takeFrom_104 rfl (lv_at hl 0 rfl) ?_
  refine lv_aload_n hx hb dX0_takeFrom_105 rfl (lv_at hl 1 rfl) ?_
  refine va_get (D := D) (ci := 0) (v := .int rtb) (C := RX0) (T := TX0) (N := 14) hx hb hts hi0 hown hK hP 1 rfl rfl 13 (by decide) (hts (.fieldLink RX0 54 "GridInverter$Inverter" "runningTicks" "I") (by decide +kernel)) (fun _ h9 => h9) rfl dX0_takeFrom_106 ?_
  refine va_put (D := D) (ci := 0) (v := .int rtb) (ty := .int) (C := RX0) (T := TX0) (N := 14) hx hb hts hi0 tyX0 tyX0_ok nmX0 hown hK hP hD hS 0 rfl rfl 13 (by decide) (hts (.fieldLink RX0 54 "GridInverter$Inverter" "runningTicks" "I") (by decide +kernel)) (fun _ h9 => h9) rfl (by decide +kernel) rfl rfl (Nat.le_of_ble_eq_true rfl) dX0_takeFrom_109 (fun H locs hP hD hS => ?_)
  have hP : va_P D vwCl [(h0, .inr (0, [.int mob, .int pob, .int rab, .int deb, .int rpb, .int rcb, .int lVb, .int hVb, .int lFb, .int hFb, .int shb, .int gab, .long enb, .int rtb])), (k0, .inr (0, [.int mob, .int pob, .int rab, .int deb, .int rpb, .int rcb, .int lVb, .int hVb, .int lFb, .int hFb, .int shb, .int gab, .long enb, .int rtb]))] H := hP
  have hD : va_D A [(h0, .inr (0, [.int mob, .int pob, .int rab, .int deb, .int rpb, .int rcb, .int lVb, .int hVb, .int lFb, .int hFb, .int shb, .int gab, .long enb, .int rtb])), (k0, .inr (0, [.int mob, .int pob, .int rab, .int deb, .int rpb, .int rcb, .int lVb, .int hVb, .int lFb, .int hFb, .int shb, .int gab, .long enb, .int rtb]))] := hD
  exact hret () _ _ _ _ _ _ _ (by first | with_reducible rfl | (simp only []; done) | rfl) hP hD hS (Nat.le_of_ble_eq_true rfl) (Nat.le_of_ble_eq_true rfl) dX0_takeFrom_112

set_option maxHeartbeats 4000000 in
set_option maxRecDepth 100000 in
theorem mX3_takeFrom (l : Launch) (D : va_G) (cI cJ cZ cO : ClassId) (h0 : Nat) (h1 : Nat) (k0 : Nat) (k1 : Nat) (la : Int32) (lf : Int32) (le : Int32) (kp : Int32) (ki : Int32) (to : Int32) (lt : Int32) (lk : Int32) (lab : Int32) (lfb : Int32) (leb : Int32) (kpb : Int32) (kib : Int32) (tob : Int32) (ltb : Int32) (lkb : Int32) (pf : Nat → Int32) (pfb : Nat → Int32) : MV l yX3_takeFrom wsX3_takeFrom ({ frames := 2, cells := 0, slots := 0, locals := 89 } : Room) D (tysK cI cJ cZ cO) [.ref h0, .ref k0] [(h0, .inr (3, [.int la, .int lf, .int le, .int kp, .int ki, .int to, .int lt, .int lk, .ref h1])), (h1, .inl (cI, 20, .inl pf)), (k0, .inr (3, [.int lab, .int lfb, .int leb, .int kpb, .int kib, .int tob, .int ltb, .int lkb, .ref k1])), (k1, .inl (cI, 20, .inl pfb))] (fun (_ : Unit) => [(h0, .inr (3, [.int lab, .int lfb, .int leb, .int kpb, .int kib, .int tob, .int ltb, .int lkb, .ref h1])), (h1, .inl (cI, 20, .inl pfb)), (k0, .inr (3, [.int lab, .int lfb, .int leb, .int kpb, .int kib, .int tob, .int ltb, .int lkb, .ref k1])), (k1, .inl (cI, 20, .inl pfb))]) := by
  refine MV.of (cc := cX3_takeFrom) (maxL := 2) (by decide) rfl (Nat.le_of_ble_eq_true rfl) ?_
  intro p e s m args below meth c A Q ls H locs B hin hS hP hD hl hret
  obtain ⟨hx, hb, hml, hown, hts, hK, hN, hA, hlocks⟩ := B
  have hi3 : ∀ w ∈ u_ws RX3 TX3 9, w ∈ wsX3_takeFrom := by decide +kernel
  have hl : lv_has ls 2 [(0, .ref h0), (1, .ref k0)] := hl
  refine lv_aload_n hx hb dX3_takeFrom_0 rfl (lv_at hl 0 rfl) ?_
  refine lv_aload_n hx hb dX3_takeFrom_1 rfl (lv_at hl 1 rfl) ?_
  refine va_get (D := D) (ci := 3) (v := .int lab) (C := RX3) (T := TX3) (N := 9) hx hb hts hi3 hown hK hP 2 rfl rfl 0 (by decide) (hts (.fieldLink RX3 9 "GridInverter$Loop" "angle" "I") (by decide +kernel)) (fun _ h9 => h9) rfl dX3_takeFrom_2 ?_
  refine va_put (D := D) (ci := 3) (v := .int lab) (ty := .int) (C := RX3) (T := TX3) (N := 9) hx hb hts hi3 tyX3 tyX3_ok nmX3 hown hK hP hD hS 0 rfl rfl 0 (by decide) (hts (.fieldLink RX3 9 "GridInverter$Loop" "angle" "I") (by decide +kernel)) (fun _ h9 => h9) rfl (by decide +kernel) rfl rfl (Nat.le_of_ble_eq_true rfl) dX3_takeFrom_5 (fun H locs hP hD hS => ?_)
  have hP : va_P D vwCl [(h0, .inr (3, [.int lab, .int lf, .int le, .int kp, .int ki, .int to, .int lt, .int lk, .ref h1])), (h1, .inl (cI, 20, .inl pf)), (k0, .inr (3, [.int lab, .int lfb, .int leb, .int kpb, .int kib, .int tob, .int ltb, .int lkb, .ref k1])), (k1, .inl (cI, 20, .inl pfb))] H := hP
  have hD : va_D A [(h0, .inr (3, [.int lab, .int lf, .int le, .int kp, .int ki, .int to, .int lt, .int lk, .ref h1])), (h1, .inl (cI, 20, .inl pf)), (k0, .inr (3, [.int lab, .int lfb, .int leb, .int kpb, .int kib, .int tob, .int ltb, .int lkb, .ref k1])), (k1, .inl (cI, 20, .inl pfb))] := hD
  refine lv_aload_n hx hb dX3_takeFrom_8 rfl (lv_at hl 0 rfl) ?_
  refine lv_aload_n hx hb dX3_takeFrom_9 rfl (lv_at hl 1 rfl) ?_
  refine va_get (D := D) (ci := 3) (v := .int lfb) (C := RX3) (T := TX3) (N := 9) hx hb hts hi3 hown hK hP 2 rfl rfl 1 (by decide) (hts (.fieldLink RX3 16 "GridInverter$Loop" "frequency" "I") (by decide +kernel)) (fun _ h9 => h9) rfl dX3_takeFrom_10 ?_
  refine va_put (D := D) (ci := 3) (v := .int lfb) (ty := .int) (C := RX3) (T := TX3) (N := 9) hx hb hts hi3 tyX3 tyX3_ok nmX3 hown hK hP hD hS 0 rfl rfl 1 (by decide) (hts (.fieldLink RX3 16 "GridInverter$Loop" "frequency" "I") (by decide +kernel)) (fun _ h9 => h9) rfl (by decide +kernel) rfl rfl (Nat.le_of_ble_eq_true rfl) dX3_takeFrom_13 (fun H locs hP hD hS => ?_)
  have hP : va_P D vwCl [(h0, .inr (3, [.int lab, .int lfb, .int le, .int kp, .int ki, .int to, .int lt, .int lk, .ref h1])), (h1, .inl (cI, 20, .inl pf)), (k0, .inr (3, [.int lab, .int lfb, .int leb, .int kpb, .int kib, .int tob, .int ltb, .int lkb, .ref k1])), (k1, .inl (cI, 20, .inl pfb))] H := hP
  have hD : va_D A [(h0, .inr (3, [.int lab, .int lfb, .int le, .int kp, .int ki, .int to, .int lt, .int lk, .ref h1])), (h1, .inl (cI, 20, .inl pf)), (k0, .inr (3, [.int lab, .int lfb, .int leb, .int kpb, .int kib, .int tob, .int ltb, .int lkb, .ref k1])), (k1, .inl (cI, 20, .inl pfb))] := hD
  refine lv_aload_n hx hb dX3_takeFrom_16 rfl (lv_at hl 0 rfl) ?_
  refine lv_aload_n hx hb dX3_takeFrom_17 rfl (lv_at hl 1 rfl) ?_
  refine va_get (D := D) (ci := 3) (v := .int leb) (C := RX3) (T := TX3) (N := 9) hx hb hts hi3 hown hK hP 2 rfl rfl 2 (by decide) (hts (.fieldLink RX3 19 "GridInverter$Loop" "error" "I") (by decide +kernel)) (fun _ h9 => h9) rfl dX3_takeFrom_18 ?_
  refine va_put (D := D) (ci := 3) (v := .int leb) (ty := .int) (C := RX3) (T := TX3) (N := 9) hx hb hts hi3 tyX3 tyX3_ok nmX3 hown hK hP hD hS 0 rfl rfl 2 (by decide) (hts (.fieldLink RX3 19 "GridInverter$Loop" "error" "I") (by decide +kernel)) (fun _ h9 => h9) rfl (by decide +kernel) rfl rfl (Nat.le_of_ble_eq_true rfl) dX3_takeFrom_21 (fun H locs hP hD hS => ?_)
  have hP : va_P D vwCl [(h0, .inr (3, [.int lab, .int lfb, .int leb, .int kp, .int ki, .int to, .int lt, .int lk, .ref h1])), (h1, .inl (cI, 20, .inl pf)), (k0, .inr (3, [.int lab, .int lfb, .int leb, .int kpb, .int kib, .int tob, .int ltb, .int lkb, .ref k1])), (k1, .inl (cI, 20, .inl pfb))] H := hP
  have hD : va_D A [(h0, .inr (3, [.int lab, .int lfb, .int leb, .int kp, .int ki, .int to, .int lt, .int lk, .ref h1])), (h1, .inl (cI, 20, .inl pf)), (k0, .inr (3, [.int lab, .int lfb, .int leb, .int kpb, .int kib, .int tob, .int ltb, .int lkb, .ref k1])), (k1, .inl (cI, 20, .inl pfb))] := hD
  refine lv_aload_n hx hb dX3_takeFrom_24 rfl (lv_at hl 0 rfl) ?_
  refine lv_aload_n hx hb dX3_takeFrom_25 rfl (lv_at hl 1 rfl) ?_
  refine va_get (D := D) (ci := 3) (v := .int kpb) (C := RX3) (T := TX3) (N := 9) hx hb hts hi3 hown hK hP 2 rfl rfl 3 (by decide) (hts (.fieldLink RX3 22 "GridInverter$Loop" "kp" "I") (by decide +kernel)) (fun _ h9 => h9) rfl dX3_takeFrom_26 ?_
  refine va_put (D := D) (ci := 3) (v := .int kpb) (ty := .int) (C := RX3) (T := TX3) (N := 9) hx hb hts hi3 tyX3 tyX3_ok nmX3 hown hK hP hD hS 0 rfl rfl 3 (by decide) (hts (.fieldLink RX3 22 "GridInverter$Loop" "kp" "I") (by decide +kernel)) (fun _ h9 => h9) rfl (by decide +kernel) rfl rfl (Nat.le_of_ble_eq_true rfl) dX3_takeFrom_29 (fun H locs hP hD hS => ?_)
  have hP : va_P D vwCl [(h0, .inr (3, [.int lab, .int lfb, .int leb, .int kpb, .int ki, .int to, .int lt, .int lk, .ref h1])), (h1, .inl (cI, 20, .inl pf)), (k0, .inr (3, [.int lab, .int lfb, .int leb, .int kpb, .int kib, .int tob, .int ltb, .int lkb, .ref k1])), (k1, .inl (cI, 20, .inl pfb))] H := hP
  have hD : va_D A [(h0, .inr (3, [.int lab, .int lfb, .int leb, .int kpb, .int ki, .int to, .int lt, .int lk, .ref h1])), (h1, .inl (cI, 20, .inl pf)), (k0, .inr (3, [.int lab, .int lfb, .int leb, .int kpb, .int kib, .int tob, .int ltb, .int lkb, .ref k1])), (k1, .inl (cI, 20, .inl pfb))] := hD
  refine lv_aload_n hx hb dX3_takeFrom_32 rfl (lv_at hl 0 rfl) ?_
  refine lv_aload_n hx hb dX3_takeFrom_33 rfl (lv_at hl 1 rfl) ?_
  refine va_get (D := D) (ci := 3) (v := .int kib) (C := RX3) (T := TX3) (N := 9) hx hb hts hi3 hown hK hP 2 rfl rfl 4 (by decide) (hts (.fieldLink RX3 25 "GridInverter$Loop" "ki" "I") (by decide +kernel)) (fun _ h9 => h9) rfl dX3_takeFrom_34 ?_
  refine va_put (D := D) (ci := 3) (v := .int kib) (ty := .int) (C := RX3) (T := TX3) (N := 9) hx hb hts hi3 tyX3 tyX3_ok nmX3 hown hK hP hD hS 0 rfl rfl 4 (by decide) (hts (.fieldLink RX3 25 "GridInverter$Loop" "ki" "I") (by decide +kernel)) (fun _ h9 => h9) rfl (by decide +kernel) rfl rfl (Nat.le_of_ble_eq_true rfl) dX3_takeFrom_37 (fun H locs hP hD hS => ?_)
  have hP : va_P D vwCl [(h0, .inr (3, [.int lab, .int lfb, .int leb, .int kpb, .int kib, .int to, .int lt, .int lk, .ref h1])), (h1, .inl (cI, 20, .inl pf)), (k0, .inr (3, [.int lab, .int lfb, .int leb, .int kpb, .int kib, .int tob, .int ltb, .int lkb, .ref k1])), (k1, .inl (cI, 20, .inl pfb))] H := hP
  have hD : va_D A [(h0, .inr (3, [.int lab, .int lfb, .int leb, .int kpb, .int kib, .int to, .int lt, .int lk, .ref h1])), (h1, .inl (cI, 20, .inl pf)), (k0, .inr (3, [.int lab, .int lfb, .int leb, .int kpb, .int kib, .int tob, .int ltb, .int lkb, .ref k1])), (k1, .inl (cI, 20, .inl pfb))] := hD
  refine lv_aload_n hx hb dX3_takeFrom_40 rfl (lv_at hl 0 rfl) ?_
  refine lv_aload_n hx hb dX3_takeFrom_41 rfl (lv_at hl 1 rfl) ?_
  refine va_get (D := D) (ci := 3) (v := .int tob) (C := RX3) (T := TX3) (N := 9) hx hb hts hi3 hown hK hP 2 rfl rfl 5 (by decide) (hts (.fieldLink RX3 28 "GridInverter$Loop" "tolerance" "I") (by decide +kernel)) (fun _ h9 => h9) rfl dX3_takeFrom_42 ?_
  refine va_put (D := D) (ci := 3) (v := .int tob) (ty := .int) (C := RX3) (T := TX3) (N := 9) hx hb hts hi3 tyX3 tyX3_ok nmX3 hown hK hP hD hS 0 rfl rfl 5 (by decide) (hts (.fieldLink RX3 28 "GridInverter$Loop" "tolerance" "I") (by decide +kernel)) (fun _ h9 => h9) rfl (by decide +kernel) rfl rfl (Nat.le_of_ble_eq_true rfl) dX3_takeFrom_45 (fun H locs hP hD hS => ?_)
  have hP : va_P D vwCl [(h0, .inr (3, [.int lab, .int lfb, .int leb, .int kpb, .int kib, .int tob, .int lt, .int lk, .ref h1])), (h1, .inl (cI, 20, .inl pf)), (k0, .inr (3, [.int lab, .int lfb, .int leb, .int kpb, .int kib, .int tob, .int ltb, .int lkb, .ref k1])), (k1, .inl (cI, 20, .inl pfb))] H := hP
  have hD : va_D A [(h0, .inr (3, [.int lab, .int lfb, .int leb, .int kpb, .int kib, .int tob, .int lt, .int lk, .ref h1])), (h1, .inl (cI, 20, .inl pf)), (k0, .inr (3, [.int lab, .int lfb, .int leb, .int kpb, .int kib, .int tob, .int ltb, .int lkb, .ref k1])), (k1, .inl (cI, 20, .inl pfb))] := hD
  refine lv_aload_n hx hb dX3_takeFrom_48 rfl (lv_at hl 0 rfl) ?_
  refine lv_aload_n hx hb dX3_takeFrom_49 rfl (lv_at hl 1 rfl) ?_
  refine va_get (D := D) (ci := 3) (v := .int ltb) (C := RX3) (T := TX3) (N := 9) hx hb hts hi3 hown hK hP 2 rfl rfl 6 (by decide) (hts (.fieldLink RX3 31 "GridInverter$Loop" "lockTime" "I") (by decide +kernel)) (fun _ h9 => h9) rfl dX3_takeFrom_50 ?_
  refine va_put (D := D) (ci := 3) (v := .int ltb) (ty := .int) (C := RX3) (T := TX3) (N := 9) hx hb hts hi3 tyX3 tyX3_ok nmX3 hown hK hP hD hS 0 rfl rfl 6 (by decide) (hts (.fieldLink RX3 31 "GridInverter$Loop" "lockTime" "I") (by decide +kernel)) (fun _ h9 => h9) rfl (by decide +kernel) rfl rfl (Nat.le_of_ble_eq_true rfl) dX3_takeFrom_53 (fun H locs hP hD hS => ?_)
  have hP : va_P D vwCl [(h0, .inr (3, [.int lab, .int lfb, .int leb, .int kpb, .int kib, .int tob, .int ltb, .int lk, .ref h1])), (h1, .inl (cI, 20, .inl pf)), (k0, .inr (3, [.int lab, .int lfb, .int leb, .int kpb, .int kib, .int tob, .int ltb, .int lkb, .ref k1])), (k1, .inl (cI, 20, .inl pfb))] H := hP
  have hD : va_D A [(h0, .inr (3, [.int lab, .int lfb, .int leb, .int kpb, .int kib, .int tob, .int ltb, .int lk, .ref h1])), (h1, .inl (cI, 20, .inl pf)), (k0, .inr (3, [.int lab, .int lfb, .int leb, .int kpb, .int kib, .int tob, .int ltb, .int lkb, .ref k1])), (k1, .inl (cI, 20, .inl pfb))] := hD
  refine lv_aload_n hx hb dX3_takeFrom_56 rfl (lv_at hl 0 rfl) ?_
  refine lv_aload_n hx hb dX3_takeFrom_57 rfl (lv_at hl 1 rfl) ?_
  refine va_get (D := D) (ci := 3) (v := .int lkb) (C := RX3) (T := TX3) (N := 9) hx hb hts hi3 hown hK hP 2 rfl rfl 7 (by decide) (hts (.fieldLink RX3 34 "GridInverter$Loop" "lockCount" "I") (by decide +kernel)) (fun _ h9 => h9) rfl dX3_takeFrom_58 ?_
  refine va_put (D := D) (ci := 3) (v := .int lkb) (ty := .int) (C := RX3) (T := TX3) (N := 9) hx hb hts hi3 tyX3 tyX3_ok nmX3 hown hK hP hD hS 0 rfl rfl 7 (by decide) (hts (.fieldLink RX3 34 "GridInverter$Loop" "lockCount" "I") (by decide +kernel)) (fun _ h9 => h9) rfl (by decide +kernel) rfl rfl (Nat.le_of_ble_eq_true rfl) dX3_takeFrom_61 (fun H locs hP hD hS => ?_)
  have hP : va_P D vwCl [(h0, .inr (3, [.int lab, .int lfb, .int leb, .int kpb, .int kib, .int tob, .int ltb, .int lkb, .ref h1])), (h1, .inl (cI, 20, .inl pf)), (k0, .inr (3, [.int lab, .int lfb, .int leb, .int kpb, .int kib, .int tob, .int ltb, .int lkb, .ref k1])), (k1, .inl (cI, 20, .inl pfb))] H := hP
  have hD : va_D A [(h0, .inr (3, [.int lab, .int lfb, .int leb, .int kpb, .int kib, .int tob, .int ltb, .int lkb, .ref h1])), (h1, .inl (cI, 20, .inl pf)), (k0, .inr (3, [.int lab, .int lfb, .int leb, .int kpb, .int kib, .int tob, .int ltb, .int lkb, .ref k1])), (k1, .inl (cI, 20, .inl pfb))] := hD
  refine lv_aload_n hx hb dX3_takeFrom_64 rfl (lv_at hl 1 rfl) ?_
  refine va_get (D := D) (ci := 3) (v := .ref k1) (C := RX3) (T := TX3) (N := 9) hx hb hts hi3 hown hK hP 2 rfl rfl 8 (by decide) (hts (.fieldLink RX3 37 "GridInverter$Loop" "past" "[I") (by decide +kernel)) (fun _ h9 => h9) rfl dX3_takeFrom_65 ?_
  refine lv_aload_n hx hb dX3_takeFrom_68 rfl (lv_at hl 0 rfl) ?_
  refine va_get (D := D) (ci := 3) (v := .ref h1) (C := RX3) (T := TX3) (N := 9) hx hb hts hi3 hown hK hP 0 rfl rfl 8 (by decide) (hts (.fieldLink RX3 37 "GridInverter$Loop" "past" "[I") (by decide +kernel)) (fun _ h9 => h9) rfl dX3_takeFrom_69 ?_
  refine call_v (wr := [(h0, .inr (3, [.int lab, .int lfb, .int leb, .int kpb, .int kib, .int tob, .int ltb, .int lkb, .ref h1])), (k0, .inr (3, [.int lab, .int lfb, .int leb, .int kpb, .int kib, .int tob, .int ltb, .int lkb, .ref k1]))]) (k := 0) (n := 0) (run_SN (As := [.ref k1, .ref h1]) (rest := []) ⟨hx, hb, hml, hown, hts⟩ (mX6_copyRow_20 l D cI cJ cZ cO k1 h1 pfb pf H.size) ⟨va_cnB 2 hts ggX3_takeFrom_X6_copyRow rfl rfl rfl hN.2.2.2.2.2.2.2.2.2.2.1 (hts (.initialized RX6) (by decide +kernel)) (by decide +kernel) ⟨Nat.le_of_ble_eq_true rfl, Nat.le_of_ble_eq_true rfl⟩, (hts (.static yX6_copyRow) (by decide +kernel))⟩ hK hN hP hD [3, 1] (by decide) rfl rfl rfl hl.1 (Nat.le_of_ble_eq_true rfl) dX3_takeFrom_72 ⟨Nat.le_of_ble_eq_true rfl, Nat.le_of_ble_eq_true rfl⟩) hP hD hS hA [3, 1] [0, 2] rfl rfl (by decide) (by decide) (Nat.le_of_ble_eq_true rfl) (Nat.le_of_ble_eq_true rfl) (fun _ H locs hP hD hS => ?_)
  have hP : va_P D vwCl [(h0, .inr (3, [.int lab, .int lfb, .int leb, .int kpb, .int kib, .int tob, .int ltb, .int lkb, .ref h1])), (k0, .inr (3, [.int lab, .int lfb, .int leb, .int kpb, .int kib, .int tob, .int ltb, .int lkb, .ref k1])), (k1, .inl (cI, 20, .inl pfb)), (h1, .inl (cI, 20, .inl pfb))] H := hP
  have hD : va_D A [(h0, .inr (3, [.int lab, .int lfb, .int leb, .int kpb, .int kib, .int tob, .int ltb, .int lkb, .ref h1])), (k0, .inr (3, [.int lab, .int lfb, .int leb, .int kpb, .int kib, .int tob, .int ltb, .int lkb, .ref k1])), (k1, .inl (cI, 20, .inl pfb)), (h1, .inl (cI, 20, .inl pfb))] := hD
  exact hret () _ _ _ _ _ _ _ (by first | with_reducible rfl | (simp only []; done) | rfl) (hP.sub (ws' := [(h0, .inr (3, [.int lab, .int lfb, .int leb, .int kpb, .int kib, .int tob, .int ltb, .int lkb, .ref h1])), (h1, .inl (cI, 20, .inl pfb)), (k0, .inr (3, [.int lab, .int lfb, .int leb, .int kpb, .int kib, .int tob, .int ltb, .int lkb, .ref k1])), (k1, .inl (cI, 20, .inl pfb))]) [0, 3, 1, 2] rfl) (hD.sub (ws' := [(h0, .inr (3, [.int lab, .int lfb, .int leb, .int kpb, .int kib, .int tob, .int ltb, .int lkb, .ref h1])), (h1, .inl (cI, 20, .inl pfb)), (k0, .inr (3, [.int lab, .int lfb, .int leb, .int kpb, .int kib, .int tob, .int ltb, .int lkb, .ref k1])), (k1, .inl (cI, 20, .inl pfb))]) [0, 3, 1, 2] (by decide) rfl) hS (Nat.le_of_ble_eq_true rfl) (Nat.le_of_ble_eq_true rfl) dX3_takeFrom_75

set_option maxHeartbeats 4000000 in
set_option maxRecDepth 100000 in
theorem mX4_takeFrom (l : Launch) (D : va_G) (cI cJ cZ cO : ClassId) (h0 : Nat) (h1 : Nat) (h2 : Nat) (h3 : Nat) (h4 : Nat) (rn : Int32) (kn : Nat → Int32) (th : Nat → Int32) (du : Nat → Int32) (ct : Nat → Int32) (k0 : Nat) (k1 : Nat) (k2 : Nat) (k3 : Nat) (k4 : Nat) (rnb : Int32) (knb : Nat → Int32) (thb : Nat → Int32) (dub : Nat → Int32) (ctb : Nat → Int32) : MV l yX4_takeFrom wsX4_takeFrom ({ frames := 2, cells := 0, slots := 0, locals := 89 } : Room) D (tysK cI cJ cZ cO) [.ref h0, .ref k0] [(h0, .inr (4, [.int rn, .ref h1, .ref h2, .ref h3, .ref h4])), (h1, .inl (cI, 8, .inl kn)), (h2, .inl (cI, 8, .inl th)), (h3, .inl (cI, 8, .inl du)), (h4, .inl (cI, 8, .inl ct)), (k0, .inr (4, [.int rnb, .ref k1, .ref k2, .ref k3, .ref k4])), (k1, .inl (cI, 8, .inl knb)), (k2, .inl (cI, 8, .inl thb)), (k3, .inl (cI, 8, .inl dub)), (k4, .inl (cI, 8, .inl ctb))] (fun (_ : Unit) => [(h0, .inr (4, [.int rnb, .ref h1, .ref h2, .ref h3, .ref h4])), (h1, .inl (cI, 8, .inl knb)), (h2, .inl (cI, 8, .inl thb)), (h3, .inl (cI, 8, .inl dub)), (h4, .inl (cI, 8, .inl ctb)), (k0, .inr (4, [.int rnb, .ref k1, .ref k2, .ref k3, .ref k4])), (k1, .inl (cI, 8, .inl knb)), (k2, .inl (cI, 8, .inl thb)), (k3, .inl (cI, 8, .inl dub)), (k4, .inl (cI, 8, .inl ctb))]) := by
  refine MV.of (cc := cX4_takeFrom) (maxL := 2) (by decide) rfl (Nat.le_of_ble_eq_true rfl) ?_
  intro p e s m args below meth c A Q ls H locs B hin hS hP hD hl hret
  obtain ⟨hx, hb, hml, hown, hts, hK, hN, hA, hlocks⟩ := B
  have hi4 : ∀ w ∈ u_ws RX4 TX4 5, w ∈ wsX4_takeFrom := by decide +kernel
  have hl : lv_has ls 2 [(0, .ref h0), (1, .ref k0)] := hl
  refine lv_aload_n hx hb dX4_takeFrom_0 rfl (lv_at hl 0 rfl) ?_
  refine lv_aload_n hx hb dX4_takeFrom_1 rfl (lv_at hl 1 rfl) ?_
  refine va_get (D := D) (ci := 4) (v := .int rnb) (C := RX4) (T := TX4) (N := 5) hx hb hts hi4 hown hK hP 5 rfl rfl 0 (by decide) (hts (.fieldLink RX4 9 "GridInverter$Rules" "size" "I") (by decide +kernel)) (fun _ h9 => h9) rfl dX4_takeFrom_2 ?_
  refine va_put (D := D) (ci := 4) (v := .int rnb) (ty := .int) (C := RX4) (T := TX4) (N := 5) hx hb hts hi4 tyX4 tyX4_ok nmX4 hown hK hP hD hS 0 rfl rfl 0 (by decide) (hts (.fieldLink RX4 9 "GridInverter$Rules" "size" "I") (by decide +kernel)) (fun _ h9 => h9) rfl (by decide +kernel) rfl rfl (Nat.le_of_ble_eq_true rfl) dX4_takeFrom_5 (fun H locs hP hD hS => ?_)
  have hP : va_P D vwCl [(h0, .inr (4, [.int rnb, .ref h1, .ref h2, .ref h3, .ref h4])), (h1, .inl (cI, 8, .inl kn)), (h2, .inl (cI, 8, .inl th)), (h3, .inl (cI, 8, .inl du)), (h4, .inl (cI, 8, .inl ct)), (k0, .inr (4, [.int rnb, .ref k1, .ref k2, .ref k3, .ref k4])), (k1, .inl (cI, 8, .inl knb)), (k2, .inl (cI, 8, .inl thb)), (k3, .inl (cI, 8, .inl dub)), (k4, .inl (cI, 8, .inl ctb))] H := hP
  have hD : va_D A [(h0, .inr (4, [.int rnb, .ref h1, .ref h2, .ref h3, .ref h4])), (h1, .inl (cI, 8, .inl kn)), (h2, .inl (cI, 8, .inl th)), (h3, .inl (cI, 8, .inl du)), (h4, .inl (cI, 8, .inl ct)), (k0, .inr (4, [.int rnb, .ref k1, .ref k2, .ref k3, .ref k4])), (k1, .inl (cI, 8, .inl knb)), (k2, .inl (cI, 8, .inl thb)), (k3, .inl (cI, 8, .inl dub)), (k4, .inl (cI, 8, .inl ctb))] := hD
  refine lv_aload_n hx hb dX4_takeFrom_8 rfl (lv_at hl 1 rfl) ?_
  refine va_get (D := D) (ci := 4) (v := .ref k1) (C := RX4) (T := TX4) (N := 5) hx hb hts hi4 hown hK hP 5 rfl rfl 1 (by decide) (hts (.fieldLink RX4 15 "GridInverter$Rules" "kinds" "[I") (by decide +kernel)) (fun _ h9 => h9) rfl dX4_takeFrom_9 ?_
  refine lv_aload_n hx hb dX4_takeFrom_12 rfl (lv_at hl 0 rfl) ?_
  refine va_get (D := D) (ci := 4) (v := .ref h1) (C := RX4) (T := TX4) (N := 5) hx hb hts hi4 hown hK hP 0 rfl rfl 1 (by decide) (hts (.fieldLink RX4 15 "GridInverter$Rules" "kinds" "[I") (by decide +kernel)) (fun _ h9 => h9) rfl dX4_takeFrom_13 ?_
  refine call_v (wr := [(h0, .inr (4, [.int rnb, .ref h1, .ref h2, .ref h3, .ref h4])), (h2, .inl (cI, 8, .inl th)), (h3, .inl (cI, 8, .inl du)), (h4, .inl (cI, 8, .inl ct)), (k0, .inr (4, [.int rnb, .ref k1, .ref k2, .ref k3, .ref k4])), (k2, .inl (cI, 8, .inl thb)), (k3, .inl (cI, 8, .inl dub)), (k4, .inl (cI, 8, .inl ctb))]) (k := 0) (n := 0) (run_SN (As := [.ref k1, .ref h1]) (rest := []) ⟨hx, hb, hml, hown, hts⟩ (mX6_copyRow_8 l D cI cJ cZ cO k1 h1 knb kn H.size) ⟨va_cnB 2 hts ggX4_takeFrom_X6_copyRow rfl rfl rfl hN.2.2.2.2.2.2.2.2.2.2.2.1 (hts (.initialized RX6) (by decide +kernel)) (by decide +kernel) ⟨Nat.le_of_ble_eq_true rfl, Nat.le_of_ble_eq_true rfl⟩, (hts (.static yX6_copyRow) (by decide +kernel))⟩ hK hN hP hD [6, 1] (by decide) rfl rfl rfl hl.1 (Nat.le_of_ble_eq_true rfl) dX4_takeFrom_16 ⟨Nat.le_of_ble_eq_true rfl, Nat.le_of_ble_eq_true rfl⟩) hP hD hS hA [6, 1] [0, 2, 3, 4, 5, 7, 8, 9] rfl rfl (by decide) (by decide) (Nat.le_of_ble_eq_true rfl) (Nat.le_of_ble_eq_true rfl) (fun _ H locs hP hD hS => ?_)
  have hP : va_P D vwCl [(h0, .inr (4, [.int rnb, .ref h1, .ref h2, .ref h3, .ref h4])), (h2, .inl (cI, 8, .inl th)), (h3, .inl (cI, 8, .inl du)), (h4, .inl (cI, 8, .inl ct)), (k0, .inr (4, [.int rnb, .ref k1, .ref k2, .ref k3, .ref k4])), (k2, .inl (cI, 8, .inl thb)), (k3, .inl (cI, 8, .inl dub)), (k4, .inl (cI, 8, .inl ctb)), (k1, .inl (cI, 8, .inl knb)), (h1, .inl (cI, 8, .inl knb))] H := hP
  have hD : va_D A [(h0, .inr (4, [.int rnb, .ref h1, .ref h2, .ref h3, .ref h4])), (h2, .inl (cI, 8, .inl th)), (h3, .inl (cI, 8, .inl du)), (h4, .inl (cI, 8, .inl ct)), (k0, .inr (4, [.int rnb, .ref k1, .ref k2, .ref k3, .ref k4])), (k2, .inl (cI, 8, .inl thb)), (k3, .inl (cI, 8, .inl dub)), (k4, .inl (cI, 8, .inl ctb)), (k1, .inl (cI, 8, .inl knb)), (h1, .inl (cI, 8, .inl knb))] := hD
  refine lv_aload_n hx hb dX4_takeFrom_19 rfl (lv_at hl 1 rfl) ?_
  refine va_get (D := D) (ci := 4) (v := .ref k2) (C := RX4) (T := TX4) (N := 5) hx hb hts hi4 hown hK hP 4 rfl rfl 2 (by decide) (hts (.fieldLink RX4 19 "GridInverter$Rules" "thresholds" "[I") (by decide +kernel)) (fun _ h9 => h9) rfl dX4_takeFrom_20 ?_
  refine lv_aload_n hx hb dX4_takeFrom_23 rfl (lv_at hl 0 rfl) ?_
  refine va_get (D := D) (ci := 4) (v := .ref h2) (C := RX4) (T := TX4) (N := 5) hx hb hts hi4 hown hK hP 0 rfl rfl 2 (by decide) (hts (.fieldLink RX4 19 "GridInverter$Rules" "thresholds" "[I") (by decide +kernel)) (fun _ h9 => h9) rfl dX4_takeFrom_24 ?_
  refine call_v (wr := [(h0, .inr (4, [.int rnb, .ref h1, .ref h2, .ref h3, .ref h4])), (h3, .inl (cI, 8, .inl du)), (h4, .inl (cI, 8, .inl ct)), (k0, .inr (4, [.int rnb, .ref k1, .ref k2, .ref k3, .ref k4])), (k3, .inl (cI, 8, .inl dub)), (k4, .inl (cI, 8, .inl ctb)), (k1, .inl (cI, 8, .inl knb)), (h1, .inl (cI, 8, .inl knb))]) (k := 0) (n := 0) (run_SN (As := [.ref k2, .ref h2]) (rest := []) ⟨hx, hb, hml, hown, hts⟩ (mX6_copyRow_8 l D cI cJ cZ cO k2 h2 thb th H.size) ⟨va_cnB 2 hts ggX4_takeFrom_X6_copyRow rfl rfl rfl hN.2.2.2.2.2.2.2.2.2.2.2.1 (hts (.initialized RX6) (by decide +kernel)) (by decide +kernel) ⟨Nat.le_of_ble_eq_true rfl, Nat.le_of_ble_eq_true rfl⟩, (hts (.static yX6_copyRow) (by decide +kernel))⟩ hK hN hP hD [5, 1] (by decide) rfl rfl rfl hl.1 (Nat.le_of_ble_eq_true rfl) dX4_takeFrom_27 ⟨Nat.le_of_ble_eq_true rfl, Nat.le_of_ble_eq_true rfl⟩) hP hD hS hA [5, 1] [0, 2, 3, 4, 6, 7, 8, 9] rfl rfl (by decide) (by decide) (Nat.le_of_ble_eq_true rfl) (Nat.le_of_ble_eq_true rfl) (fun _ H locs hP hD hS => ?_)
  have hP : va_P D vwCl [(h0, .inr (4, [.int rnb, .ref h1, .ref h2, .ref h3, .ref h4])), (h3, .inl (cI, 8, .inl du)), (h4, .inl (cI, 8, .inl ct)), (k0, .inr (4, [.int rnb, .ref k1, .ref k2, .ref k3, .ref k4])), (k3, .inl (cI, 8, .inl dub)), (k4, .inl (cI, 8, .inl ctb)), (k1, .inl (cI, 8, .inl knb)), (h1, .inl (cI, 8, .inl knb)), (k2, .inl (cI, 8, .inl thb)), (h2, .inl (cI, 8, .inl thb))] H := hP
  have hD : va_D A [(h0, .inr (4, [.int rnb, .ref h1, .ref h2, .ref h3, .ref h4])), (h3, .inl (cI, 8, .inl du)), (h4, .inl (cI, 8, .inl ct)), (k0, .inr (4, [.int rnb, .ref k1, .ref k2, .ref k3, .ref k4])), (k3, .inl (cI, 8, .inl dub)), (k4, .inl (cI, 8, .inl ctb)), (k1, .inl (cI, 8, .inl knb)), (h1, .inl (cI, 8, .inl knb)), (k2, .inl (cI, 8, .inl thb)), (h2, .inl (cI, 8, .inl thb))] := hD
  refine lv_aload_n hx hb dX4_takeFrom_30 rfl (lv_at hl 1 rfl) ?_
  refine va_get (D := D) (ci := 4) (v := .ref k3) (C := RX4) (T := TX4) (N := 5) hx hb hts hi4 hown hK hP 3 rfl rfl 3 (by decide) (hts (.fieldLink RX4 22 "GridInverter$Rules" "durations" "[I") (by decide +kernel)) (fun _ h9 => h9) rfl dX4_takeFrom_31 ?_
  refine lv_aload_n hx hb dX4_takeFrom_34 rfl (lv_at hl 0 rfl) ?_
  refine va_get (D := D) (ci := 4) (v := .ref h3) (C := RX4) (T := TX4) (N := 5) hx hb hts hi4 hown hK hP 0 rfl rfl 3 (by decide) (hts (.fieldLink RX4 22 "GridInverter$Rules" "durations" "[I") (by decide +kernel)) (fun _ h9 => h9) rfl dX4_takeFrom_35 ?_
  refine call_v (wr := [(h0, .inr (4, [.int rnb, .ref h1, .ref h2, .ref h3, .ref h4])), (h4, .inl (cI, 8, .inl ct)), (k0, .inr (4, [.int rnb, .ref k1, .ref k2, .ref k3, .ref k4])), (k4, .inl (cI, 8, .inl ctb)), (k1, .inl (cI, 8, .inl knb)), (h1, .inl (cI, 8, .inl knb)), (k2, .inl (cI, 8, .inl thb)), (h2, .inl (cI, 8, .inl thb))]) (k := 0) (n := 0) (run_SN (As := [.ref k3, .ref h3]) (rest := []) ⟨hx, hb, hml, hown, hts⟩ (mX6_copyRow_8 l D cI cJ cZ cO k3 h3 dub du H.size) ⟨va_cnB 2 hts ggX4_takeFrom_X6_copyRow rfl rfl rfl hN.2.2.2.2.2.2.2.2.2.2.2.1 (hts (.initialized RX6) (by decide +kernel)) (by decide +kernel) ⟨Nat.le_of_ble_eq_true rfl, Nat.le_of_ble_eq_true rfl⟩, (hts (.static yX6_copyRow) (by decide +kernel))⟩ hK hN hP hD [4, 1] (by decide) rfl rfl rfl hl.1 (Nat.le_of_ble_eq_true rfl) dX4_takeFrom_38 ⟨Nat.le_of_ble_eq_true rfl, Nat.le_of_ble_eq_true rfl⟩) hP hD hS hA [4, 1] [0, 2, 3, 5, 6, 7, 8, 9] rfl rfl (by decide) (by decide) (Nat.le_of_ble_eq_true rfl) (Nat.le_of_ble_eq_true rfl) (fun _ H locs hP hD hS => ?_)
  have hP : va_P D vwCl [(h0, .inr (4, [.int rnb, .ref h1, .ref h2, .ref h3, .ref h4])), (h4, .inl (cI, 8, .inl ct)), (k0, .inr (4, [.int rnb, .ref k1, .ref k2, .ref k3, .ref k4])), (k4, .inl (cI, 8, .inl ctb)), (k1, .inl (cI, 8, .inl knb)), (h1, .inl (cI, 8, .inl knb)), (k2, .inl (cI, 8, .inl thb)), (h2, .inl (cI, 8, .inl thb)), (k3, .inl (cI, 8, .inl dub)), (h3, .inl (cI, 8, .inl dub))] H := hP
  have hD : va_D A [(h0, .inr (4, [.int rnb, .ref h1, .ref h2, .ref h3, .ref h4])), (h4, .inl (cI, 8, .inl ct)), (k0, .inr (4, [.int rnb, .ref k1, .ref k2, .ref k3, .ref k4])), (k4, .inl (cI, 8, .inl ctb)), (k1, .inl (cI, 8, .inl knb)), (h1, .inl (cI, 8, .inl knb)), (k2, .inl (cI, 8, .inl thb)), (h2, .inl (cI, 8, .inl thb)), (k3, .inl (cI, 8, .inl dub)), (h3, .inl (cI, 8, .inl dub))] := hD
  refine lv_aload_n hx hb dX4_takeFrom_41 rfl (lv_at hl 1 rfl) ?_
  refine va_get (D := D) (ci := 4) (v := .ref k4) (C := RX4) (T := TX4) (N := 5) hx hb hts hi4 hown hK hP 2 rfl rfl 4 (by decide) (hts (.fieldLink RX4 25 "GridInverter$Rules" "counts" "[I") (by decide +kernel)) (fun _ h9 => h9) rfl dX4_takeFrom_42 ?_
  refine lv_aload_n hx hb dX4_takeFrom_45 rfl (lv_at hl 0 rfl) ?_
  refine va_get (D := D) (ci := 4) (v := .ref h4) (C := RX4) (T := TX4) (N := 5) hx hb hts hi4 hown hK hP 0 rfl rfl 4 (by decide) (hts (.fieldLink RX4 25 "GridInverter$Rules" "counts" "[I") (by decide +kernel)) (fun _ h9 => h9) rfl dX4_takeFrom_46 ?_
  refine call_v (wr := [(h0, .inr (4, [.int rnb, .ref h1, .ref h2, .ref h3, .ref h4])), (k0, .inr (4, [.int rnb, .ref k1, .ref k2, .ref k3, .ref k4])), (k1, .inl (cI, 8, .inl knb)), (h1, .inl (cI, 8, .inl knb)), (k2, .inl (cI, 8, .inl thb)), (h2, .inl (cI, 8, .inl thb)), (k3, .inl (cI, 8, .inl dub)), (h3, .inl (cI, 8, .inl dub))]) (k := 0) (n := 0) (run_SN (As := [.ref k4, .ref h4]) (rest := []) ⟨hx, hb, hml, hown, hts⟩ (mX6_copyRow_8 l D cI cJ cZ cO k4 h4 ctb ct H.size) ⟨va_cnB 2 hts ggX4_takeFrom_X6_copyRow rfl rfl rfl hN.2.2.2.2.2.2.2.2.2.2.2.1 (hts (.initialized RX6) (by decide +kernel)) (by decide +kernel) ⟨Nat.le_of_ble_eq_true rfl, Nat.le_of_ble_eq_true rfl⟩, (hts (.static yX6_copyRow) (by decide +kernel))⟩ hK hN hP hD [3, 1] (by decide) rfl rfl rfl hl.1 (Nat.le_of_ble_eq_true rfl) dX4_takeFrom_49 ⟨Nat.le_of_ble_eq_true rfl, Nat.le_of_ble_eq_true rfl⟩) hP hD hS hA [3, 1] [0, 2, 4, 5, 6, 7, 8, 9] rfl rfl (by decide) (by decide) (Nat.le_of_ble_eq_true rfl) (Nat.le_of_ble_eq_true rfl) (fun _ H locs hP hD hS => ?_)
  have hP : va_P D vwCl [(h0, .inr (4, [.int rnb, .ref h1, .ref h2, .ref h3, .ref h4])), (k0, .inr (4, [.int rnb, .ref k1, .ref k2, .ref k3, .ref k4])), (k1, .inl (cI, 8, .inl knb)), (h1, .inl (cI, 8, .inl knb)), (k2, .inl (cI, 8, .inl thb)), (h2, .inl (cI, 8, .inl thb)), (k3, .inl (cI, 8, .inl dub)), (h3, .inl (cI, 8, .inl dub)), (k4, .inl (cI, 8, .inl ctb)), (h4, .inl (cI, 8, .inl ctb))] H := hP
  have hD : va_D A [(h0, .inr (4, [.int rnb, .ref h1, .ref h2, .ref h3, .ref h4])), (k0, .inr (4, [.int rnb, .ref k1, .ref k2, .ref k3, .ref k4])), (k1, .inl (cI, 8, .inl knb)), (h1, .inl (cI, 8, .inl knb)), (k2, .inl (cI, 8, .inl thb)), (h2, .inl (cI, 8, .inl thb)), (k3, .inl (cI, 8, .inl dub)), (h3, .inl (cI, 8, .inl dub)), (k4, .inl (cI, 8, .inl ctb)), (h4, .inl (cI, 8, .inl ctb))] := hD
  exact hret () _ _ _ _ _ _ _ (by first | with_reducible rfl | (simp only []; done) | rfl) (hP.sub (ws' := [(h0, .inr (4, [.int rnb, .ref h1, .ref h2, .ref h3, .ref h4])), (h1, .inl (cI, 8, .inl knb)), (h2, .inl (cI, 8, .inl thb)), (h3, .inl (cI, 8, .inl dub)), (h4, .inl (cI, 8, .inl ctb)), (k0, .inr (4, [.int rnb, .ref k1, .ref k2, .ref k3, .ref k4])), (k1, .inl (cI, 8, .inl knb)), (k2, .inl (cI, 8, .inl thb)), (k3, .inl (cI, 8, .inl dub)), (k4, .inl (cI, 8, .inl ctb))]) [0, 3, 5, 7, 9, 1, 2, 4, 6, 8] rfl) (hD.sub (ws' := [(h0, .inr (4, [.int rnb, .ref h1, .ref h2, .ref h3, .ref h4])), (h1, .inl (cI, 8, .inl knb)), (h2, .inl (cI, 8, .inl thb)), (h3, .inl (cI, 8, .inl dub)), (h4, .inl (cI, 8, .inl ctb)), (k0, .inr (4, [.int rnb, .ref k1, .ref k2, .ref k3, .ref k4])), (k1, .inl (cI, 8, .inl knb)), (k2, .inl (cI, 8, .inl thb)), (k3, .inl (cI, 8, .inl dub)), (k4, .inl (cI, 8, .inl ctb))]) [0, 3, 5, 7, 9, 1, 2, 4, 6, 8] (by decide) rfl) hS (Nat.le_of_ble_eq_true rfl) (Nat.le_of_ble_eq_true rfl) dX4_takeFrom_52

set_option maxHeartbeats 4000000 in
set_option maxRecDepth 100000 in
theorem mX2_takeFrom (l : Launch) (D : va_G) (cI cJ cZ cO : ClassId) (h0 : Nat) (h1 : Nat) (h2 : Nat) (es : Int32) (et : Nat → Int32) (ec : Nat → Int32) (k0 : Nat) (k1 : Nat) (k2 : Nat) (esb : Int32) (etb : Nat → Int32) (ecb : Nat → Int32) : MV l yX2_takeFrom wsX2_takeFrom ({ frames := 2, cells := 0, slots := 0, locals := 89 } : Room) D (tysK cI cJ cZ cO) [.ref h0, .ref k0] [(h0, .inr (2, [.int es, .ref h1, .ref h2])), (h1, .inl (cI, 40, .inl et)), (h2, .inl (cI, 40, .inl ec)), (k0, .inr (2, [.int esb, .ref k1, .ref k2])), (k1, .inl (cI, 40, .inl etb)), (k2, .inl (cI, 40, .inl ecb))] (fun (_ : Unit) => [(h0, .inr (2, [.int esb, .ref h1, .ref h2])), (h1, .inl (cI, 40, .inl etb)), (h2, .inl (cI, 40, .inl ecb)), (k0, .inr (2, [.int esb, .ref k1, .ref k2])), (k1, .inl (cI, 40, .inl etb)), (k2, .inl (cI, 40, .inl ecb))]) := by
  refine MV.of (cc := cX2_takeFrom) (maxL := 2) (by decide) rfl (Nat.le_of_ble_eq_true rfl) ?_
  intro p e s m args below meth c A Q ls H locs B hin hS hP hD hl hret
  obtain ⟨hx, hb, hml, hown, hts, hK, hN, hA, hlocks⟩ := B
  have hi2 : ∀ w ∈ u_ws RX2 TX2 3, w ∈ wsX2_takeFrom := by decide +kernel
  have hl : lv_has ls 2 [(0, .ref h0), (1, .ref k0)] := hl
  refine lv_aload_n hx hb dX2_takeFrom_0 rfl (lv_at hl 0 rfl) ?_
  refine lv_aload_n hx hb dX2_takeFrom_1 rfl (lv_at hl 1 rfl) ?_
  refine va_get (D := D) (ci := 2) (v := .int esb) (C := RX2) (T := TX2) (N := 3) hx hb hts hi2 hown hK hP 3 rfl rfl 0 (by decide) (hts (.fieldLink RX2 9 "GridInverter$Log" "size" "I") (by decide +kernel)) (fun _ h9 => h9) rfl dX2_takeFrom_2 ?_
  refine va_put (D := D) (ci := 2) (v := .int esb) (ty := .int) (C := RX2) (T := TX2) (N := 3) hx hb hts hi2 tyX2 tyX2_ok nmX2 hown hK hP hD hS 0 rfl rfl 0 (by decide) (hts (.fieldLink RX2 9 "GridInverter$Log" "size" "I") (by decide +kernel)) (fun _ h9 => h9) rfl (by decide +kernel) rfl rfl (Nat.le_of_ble_eq_true rfl) dX2_takeFrom_5 (fun H locs hP hD hS => ?_)
  have hP : va_P D vwCl [(h0, .inr (2, [.int esb, .ref h1, .ref h2])), (h1, .inl (cI, 40, .inl et)), (h2, .inl (cI, 40, .inl ec)), (k0, .inr (2, [.int esb, .ref k1, .ref k2])), (k1, .inl (cI, 40, .inl etb)), (k2, .inl (cI, 40, .inl ecb))] H := hP
  have hD : va_D A [(h0, .inr (2, [.int esb, .ref h1, .ref h2])), (h1, .inl (cI, 40, .inl et)), (h2, .inl (cI, 40, .inl ec)), (k0, .inr (2, [.int esb, .ref k1, .ref k2])), (k1, .inl (cI, 40, .inl etb)), (k2, .inl (cI, 40, .inl ecb))] := hD
  refine lv_aload_n hx hb dX2_takeFrom_8 rfl (lv_at hl 1 rfl) ?_
  refine va_get (D := D) (ci := 2) (v := .ref k1) (C := RX2) (T := TX2) (N := 3) hx hb hts hi2 hown hK hP 3 rfl rfl 1 (by decide) (hts (.fieldLink RX2 15 "GridInverter$Log" "times" "[I") (by decide +kernel)) (fun _ h9 => h9) rfl dX2_takeFrom_9 ?_
  refine lv_aload_n hx hb dX2_takeFrom_12 rfl (lv_at hl 0 rfl) ?_
  refine va_get (D := D) (ci := 2) (v := .ref h1) (C := RX2) (T := TX2) (N := 3) hx hb hts hi2 hown hK hP 0 rfl rfl 1 (by decide) (hts (.fieldLink RX2 15 "GridInverter$Log" "times" "[I") (by decide +kernel)) (fun _ h9 => h9) rfl dX2_takeFrom_13 ?_
  refine call_v (wr := [(h0, .inr (2, [.int esb, .ref h1, .ref h2])), (h2, .inl (cI, 40, .inl ec)), (k0, .inr (2, [.int esb, .ref k1, .ref k2])), (k2, .inl (cI, 40, .inl ecb))]) (k := 0) (n := 0) (run_SN (As := [.ref k1, .ref h1]) (rest := []) ⟨hx, hb, hml, hown, hts⟩ (mX6_copyRow_40 l D cI cJ cZ cO k1 h1 etb et H.size) ⟨va_cnB 2 hts ggX2_takeFrom_X6_copyRow rfl rfl rfl hN.2.2.2.2.2.2.2.2.2.2.2.2.1 (hts (.initialized RX6) (by decide +kernel)) (by decide +kernel) ⟨Nat.le_of_ble_eq_true rfl, Nat.le_of_ble_eq_true rfl⟩, (hts (.static yX6_copyRow) (by decide +kernel))⟩ hK hN hP hD [4, 1] (by decide) rfl rfl rfl hl.1 (Nat.le_of_ble_eq_true rfl) dX2_takeFrom_16 ⟨Nat.le_of_ble_eq_true rfl, Nat.le_of_ble_eq_true rfl⟩) hP hD hS hA [4, 1] [0, 2, 3, 5] rfl rfl (by decide) (by decide) (Nat.le_of_ble_eq_true rfl) (Nat.le_of_ble_eq_true rfl) (fun _ H locs hP hD hS => ?_)
  have hP : va_P D vwCl [(h0, .inr (2, [.int esb, .ref h1, .ref h2])), (h2, .inl (cI, 40, .inl ec)), (k0, .inr (2, [.int esb, .ref k1, .ref k2])), (k2, .inl (cI, 40, .inl ecb)), (k1, .inl (cI, 40, .inl etb)), (h1, .inl (cI, 40, .inl etb))] H := hP
  have hD : va_D A [(h0, .inr (2, [.int esb, .ref h1, .ref h2])), (h2, .inl (cI, 40, .inl ec)), (k0, .inr (2, [.int esb, .ref k1, .ref k2])), (k2, .inl (cI, 40, .inl ecb)), (k1, .inl (cI, 40, .inl etb)), (h1, .inl (cI, 40, .inl etb))] := hD
  refine lv_aload_n hx hb dX2_takeFrom_19 rfl (lv_at hl 1 rfl) ?_
  refine va_get (D := D) (ci := 2) (v := .ref k2) (C := RX2) (T := TX2) (N := 3) hx hb hts hi2 hown hK hP 2 rfl rfl 2 (by decide) (hts (.fieldLink RX2 19 "GridInverter$Log" "causes" "[I") (by decide +kernel)) (fun _ h9 => h9) rfl dX2_takeFrom_20 ?_
  refine lv_aload_n hx hb dX2_takeFrom_23 rfl (lv_at hl 0 rfl) ?_
  refine va_get (D := D) (ci := 2) (v := .ref h2) (C := RX2) (T := TX2) (N := 3) hx hb hts hi2 hown hK hP 0 rfl rfl 2 (by decide) (hts (.fieldLink RX2 19 "GridInverter$Log" "causes" "[I") (by decide +kernel)) (fun _ h9 => h9) rfl dX2_takeFrom_24 ?_
  refine call_v (wr := [(h0, .inr (2, [.int esb, .ref h1, .ref h2])), (k0, .inr (2, [.int esb, .ref k1, .ref k2])), (k1, .inl (cI, 40, .inl etb)), (h1, .inl (cI, 40, .inl etb))]) (k := 0) (n := 0) (run_SN (As := [.ref k2, .ref h2]) (rest := []) ⟨hx, hb, hml, hown, hts⟩ (mX6_copyRow_40 l D cI cJ cZ cO k2 h2 ecb ec H.size) ⟨va_cnB 2 hts ggX2_takeFrom_X6_copyRow rfl rfl rfl hN.2.2.2.2.2.2.2.2.2.2.2.2.1 (hts (.initialized RX6) (by decide +kernel)) (by decide +kernel) ⟨Nat.le_of_ble_eq_true rfl, Nat.le_of_ble_eq_true rfl⟩, (hts (.static yX6_copyRow) (by decide +kernel))⟩ hK hN hP hD [3, 1] (by decide) rfl rfl rfl hl.1 (Nat.le_of_ble_eq_true rfl) dX2_takeFrom_27 ⟨Nat.le_of_ble_eq_true rfl, Nat.le_of_ble_eq_true rfl⟩) hP hD hS hA [3, 1] [0, 2, 4, 5] rfl rfl (by decide) (by decide) (Nat.le_of_ble_eq_true rfl) (Nat.le_of_ble_eq_true rfl) (fun _ H locs hP hD hS => ?_)
  have hP : va_P D vwCl [(h0, .inr (2, [.int esb, .ref h1, .ref h2])), (k0, .inr (2, [.int esb, .ref k1, .ref k2])), (k1, .inl (cI, 40, .inl etb)), (h1, .inl (cI, 40, .inl etb)), (k2, .inl (cI, 40, .inl ecb)), (h2, .inl (cI, 40, .inl ecb))] H := hP
  have hD : va_D A [(h0, .inr (2, [.int esb, .ref h1, .ref h2])), (k0, .inr (2, [.int esb, .ref k1, .ref k2])), (k1, .inl (cI, 40, .inl etb)), (h1, .inl (cI, 40, .inl etb)), (k2, .inl (cI, 40, .inl ecb)), (h2, .inl (cI, 40, .inl ecb))] := hD
  exact hret () _ _ _ _ _ _ _ (by first | with_reducible rfl | (simp only []; done) | rfl) (hP.sub (ws' := [(h0, .inr (2, [.int esb, .ref h1, .ref h2])), (h1, .inl (cI, 40, .inl etb)), (h2, .inl (cI, 40, .inl ecb)), (k0, .inr (2, [.int esb, .ref k1, .ref k2])), (k1, .inl (cI, 40, .inl etb)), (k2, .inl (cI, 40, .inl ecb))]) [0, 3, 5, 1, 2, 4] rfl) (hD.sub (ws' := [(h0, .inr (2, [.int esb, .ref h1, .ref h2])), (h1, .inl (cI, 40, .inl etb)), (h2, .inl (cI, 40, .inl ecb)), (k0, .inr (2, [.int esb, .ref k1, .ref k2])), (k1, .inl (cI, 40, .inl etb)), (k2, .inl (cI, 40, .inl ecb))]) [0, 3, 5, 1, 2, 4] (by decide) rfl) hS (Nat.le_of_ble_eq_true rfl) (Nat.le_of_ble_eq_true rfl) dX2_takeFrom_30
