def a_h2_X7_putAside (f : Nat → Int32) (as : Nat → Int32) : Nat → Int32 := (cpN as f 165)
set_option maxHeartbeats 4000000 in
set_option maxRecDepth 100000 in
theorem mX7_putAside (l : Launch) (D : va_G) (cI cJ cZ cO : ClassId) (h0 : Nat) (h1 : Nat) (h2 : Nat) (h3 : Nat) (h4 : Nat) (h5 : Nat) (me : Int64) (tw : Int32) (f : Nat → Int32) (as : Nat → Int32) : MV l yX7_putAside wsX7_putAside ({ frames := 0, cells := 0, slots := 0, locals := 0 } : Room) D (tysK cI cJ cZ cO) [.ref h0] [(h0, .inr (7, [.ref h1, .long me, .ref h2, .ref h3, .ref h4, .ref h5, .int tw])), (h1, .inl (cI, 165, .inl f)), (h2, .inl (cI, 165, .inl as))] (fun (_ : Unit) => [(h0, .inr (7, [.ref h1, .long me, .ref h2, .ref h3, .ref h4, .ref h5, .int tw])), (h1, .inl (cI, 165, .inl f)), (h2, .inl (cI, 165, .inl (a_h2_X7_putAside f as)))]) := by
  refine MV.of (cc := cX7_putAside) (maxL := 2) (by decide) rfl (Nat.le_of_ble_eq_true rfl) ?_
  intro p e s m args below meth c A Q ls H locs B hin hS hP hD hl hret
  obtain ⟨hx, hb, hml, hown, hts, hK, hN, hA, hlocks⟩ := B
  have hi7 : ∀ w ∈ u_ws RX7 TX7 7, w ∈ wsX7_putAside := by decide +kernel
  have hl : lv_has ls 2 [(0, .ref h0)] := hl
  refine lv_iconst (v := 0) hx hb dX7_putAside_0 (by decide) ?_
  refine lv_istore_n (lv' := [(1, .int 0), (0, .ref h0)]) hx hb dX7_putAside_1 rfl hl (by decide) rfl (fun ls hl => ?_)
  have L2 : ∀ (n i : Nat) (H : Heap) (locs : List Loc) (ls : Array Slot), i ≤ 165 → 165 + 1 ≤ i + n → va_P D vwCl [(h0, .inr (7, [.ref h1, .long me, .ref h2, .ref h3, .ref h4, .ref h5, .int tw])), (h1, .inl (cI, 165, .inl f)), (h2, .inl (cI, 165, .inl (cpN as f i)))] H → va_D A [(h0, .inr (7, [.ref h1, .long me, .ref h2, .ref h3, .ref h4, .ref h5, .int tw])), (h1, .inl (cI, 165, .inl f)), (h2, .inl (cI, 165, .inl (cpN as f i)))] → va_S A s.heap H locs → lv_has ls 2 [(0, .ref h0), (1, .int (nI i))] → W p l e ({ frames := 0, cells := 0, slots := 0, locals := 0 } : Room) s m args below meth c H locs 0 0 Q (F0 m 2 ls []) := by
    intro n
    induction n with
    | zero => intro i H locs ls hi hin; exact absurd hin (by omega)
    | succ n ih =>
      intro i H locs ls hi hin hP hD hS hl
      refine lv_iload_n hx hb dX7_putAside_2 rfl (lv_at hl 1 rfl) ?_
      refine lv_sipush (v := 165) hx hb dX7_putAside_3 (by decide) ?_
      refine lv_icmp_ge (tgt := 27) hx hb dX7_putAside_6 (by decide) (fun c1 => ?_) (fun c1 => ?_)
      · have hiN : 165 = i := Nat.le_antisymm ((gd_ex (N := 165) rfl (Nat.le_of_ble_eq_true rfl) hi c1)) hi
        subst hiN
        have hP : va_P D vwCl [(h0, .inr (7, [.ref h1, .long me, .ref h2, .ref h3, .ref h4, .ref h5, .int tw])), (h1, .inl (cI, 165, .inl f)), (h2, .inl (cI, 165, .inl (cpN as f 165)))] H := hP
        have hD : va_D A [(h0, .inr (7, [.ref h1, .long me, .ref h2, .ref h3, .ref h4, .ref h5, .int tw])), (h1, .inl (cI, 165, .inl f)), (h2, .inl (cI, 165, .inl (cpN as f 165)))] := hD
        have hl : lv_has ls 2 [(0, .ref h0), (1, .int (nI 165))] := hl
        exact hret () _ _ _ _ _ _ _ (by first | with_reducible rfl | (simp only [a_h2_X7_putAside]; done) | rfl) hP hD hS (Nat.le_of_ble_eq_true rfl) (Nat.le_of_ble_eq_true rfl) dX7_putAside_27
      · have hiN : i < 165 := (gd_in (N := 165) rfl (Nat.le_of_ble_eq_true rfl) hi c1)
        refine lv_aload_n hx hb dX7_putAside_9 rfl (lv_at hl 0 rfl) ?_
        refine va_get (D := D) (ci := 7) (v := .ref h2) (C := RX7) (T := TX7) (N := 7) hx hb hts hi7 hown hK hP 0 rfl rfl 2 (by decide) (hts (.fieldLink RX7 13 "GridInverterModel" "aside" "[I") (by decide +kernel)) (fun _ h9 => h9) rfl dX7_putAside_10 ?_
        refine lv_iload_n hx hb dX7_putAside_13 rfl (lv_at hl 1 rfl) ?_
        refine lv_aload_n hx hb dX7_putAside_14 rfl (lv_at hl 0 rfl) ?_
        refine va_get (D := D) (ci := 7) (v := .ref h1) (C := RX7) (T := TX7) (N := 7) hx hb hts hi7 hown hK hP 0 rfl rfl 0 (by decide) (hts (.fieldLink RX7 7 "GridInverterModel" "at" "[I") (by decide +kernel)) (fun _ h9 => h9) rfl dX7_putAside_15 ?_
        refine lv_iload_n hx hb dX7_putAside_18 rfl (lv_at hl 1 rfl) ?_
        refine r_ald hx hb hK hP 1 0 rfl rfl i rfl (by omega) (Nat.le_of_ble_eq_true rfl) (v := (f i)) rfl dX7_putAside_19 ?_
        refine r_ast hx hb hK hP hD hS 2 0 rfl rfl i rfl (by omega) (Nat.le_of_ble_eq_true rfl) dX7_putAside_20 (fun H locs hP hD hS => ?_)
        have hP : va_P D vwCl [(h0, .inr (7, [.ref h1, .long me, .ref h2, .ref h3, .ref h4, .ref h5, .int tw])), (h1, .inl (cI, 165, .inl f)), (h2, .inl (cI, 165, .inl (upd (cpN as f i) i (f i))))] H := hP
        have hD : va_D A [(h0, .inr (7, [.ref h1, .long me, .ref h2, .ref h3, .ref h4, .ref h5, .int tw])), (h1, .inl (cI, 165, .inl f)), (h2, .inl (cI, 165, .inl (upd (cpN as f i) i (f i))))] := hD
        refine lv_iinc (v := (nI (i + 1))) (lv' := [(1, .int (nI (i + 1))), (0, .ref h0)]) hx hb dX7_putAside_21 hl (k := 1) rfl (nI_1 i) (by decide) rfl (fun ls hl => ?_)
        refine lv_goto (tgt := 2) hx hb dX7_putAside_24 (by decide) ?_
        have eW : ([(h0, .inr (7, [.ref h1, .long me, .ref h2, .ref h3, .ref h4, .ref h5, .int tw])), (h1, .inl (cI, 165, .inl f)), (h2, .inl (cI, 165, .inl (upd (cpN as f i) i (f i))))] : va_W) = [(h0, .inr (7, [.ref h1, .long me, .ref h2, .ref h3, .ref h4, .ref h5, .int tw])), (h1, .inl (cI, 165, .inl f)), (h2, .inl (cI, 165, .inl (cpN as f (i + 1))))] := (by rfl)
        have eL : ([(0, .ref h0), (1, .int (nI (i + 1)))] : List (Nat × Value)) = [(0, .ref h0), (1, .int (nI (i + 1)))] := (by rfl)
        exact ih (i + 1) H locs ls (by omega) (by omega) (P_eq eW (hP.sub (ws' := [(h0, .inr (7, [.ref h1, .long me, .ref h2, .ref h3, .ref h4, .ref h5, .int tw])), (h1, .inl (cI, 165, .inl f)), (h2, .inl (cI, 165, .inl (upd (cpN as f i) i (f i))))]) [0, 1, 2] rfl)) (D_eq eW (hD.sub (ws' := [(h0, .inr (7, [.ref h1, .long me, .ref h2, .ref h3, .ref h4, .ref h5, .int tw])), (h1, .inl (cI, 165, .inl f)), (h2, .inl (cI, 165, .inl (upd (cpN as f i) i (f i))))]) [0, 1, 2] (by decide) rfl)) hS (L_eq eL (lv_sub (l' := [(0, .ref h0), (1, .int (nI (i + 1)))]) hl [1, 0] rfl))
  have eW : ([(h0, .inr (7, [.ref h1, .long me, .ref h2, .ref h3, .ref h4, .ref h5, .int tw])), (h1, .inl (cI, 165, .inl f)), (h2, .inl (cI, 165, .inl as))] : va_W) = [(h0, .inr (7, [.ref h1, .long me, .ref h2, .ref h3, .ref h4, .ref h5, .int tw])), (h1, .inl (cI, 165, .inl f)), (h2, .inl (cI, 165, .inl (cpN as f 0)))] := by rfl
  have eL : ([(0, .ref h0), (1, .int 0)] : List (Nat × Value)) = [(0, .ref h0), (1, .int (nI 0))] := by rfl
  exact L2 (165 + 1) 0 H locs ls (by omega) (by omega) (P_eq eW (hP.sub (ws' := [(h0, .inr (7, [.ref h1, .long me, .ref h2, .ref h3, .ref h4, .ref h5, .int tw])), (h1, .inl (cI, 165, .inl f)), (h2, .inl (cI, 165, .inl as))]) [0, 1, 2] rfl)) (D_eq eW (hD.sub (ws' := [(h0, .inr (7, [.ref h1, .long me, .ref h2, .ref h3, .ref h4, .ref h5, .int tw])), (h1, .inl (cI, 165, .inl f)), (h2, .inl (cI, 165, .inl as))]) [0, 1, 2] (by decide) rfl)) hS (L_eq eL (lv_sub (l' := [(0, .ref h0), (1, .int 0)]) hl [1, 0] rfl))

def a_h1_X7_putBack (f : Nat → Int32) (as : Nat → Int32) : Nat → Int32 := (cpN f as 165)
set_option maxHeartbeats 4000000 in
set_option maxRecDepth 100000 in
theorem mX7_putBack (l : Launch) (D : va_G) (cI cJ cZ cO : ClassId) (h0 : Nat) (h1 : Nat) (h2 : Nat) (h3 : Nat) (h4 : Nat) (h5 : Nat) (me : Int64) (tw : Int32) (f : Nat → Int32) (as : Nat → Int32) : MV l yX7_putBack wsX7_putBack ({ frames := 0, cells := 0, slots := 0, locals := 0 } : Room) D (tysK cI cJ cZ cO) [.ref h0] [(h0, .inr (7, [.ref h1, .long me, .ref h2, .ref h3, .ref h4, .ref h5, .int tw])), (h1, .inl (cI, 165, .inl f)), (h2, .inl (cI, 165, .inl as))] (fun (_ : Unit) => [(h0, .inr (7, [.ref h1, .long me, .ref h2, .ref h3, .ref h4, .ref h5, .int tw])), (h1, .inl (cI, 165, .inl (a_h1_X7_putBack f as))), (h2, .inl (cI, 165, .inl as))]) := by
  refine MV.of (cc := cX7_putBack) (maxL := 2) (by decide) rfl (Nat.le_of_ble_eq_true rfl) ?_
  intro p e s m args below meth c A Q ls H locs B hin hS hP hD hl hret
  obtain ⟨hx, hb, hml, hown, hts, hK, hN, hA, hlocks⟩ := B
  have hi7 : ∀ w ∈ u_ws RX7 TX7 7, w ∈ wsX7_putBack := by decide +kernel
  have hl : lv_has ls 2 [(0, .ref h0)] := hl
  refine lv_iconst (v := 0) hx hb dX7_putBack_0 (by decide) ?_
  refine lv_istore_n (lv' := [(1, .int 0), (0, .ref h0)]) hx hb dX7_putBack_1 rfl hl (by decide) rfl (fun ls hl => ?_)
  have L2 : ∀ (n i : Nat) (H : Heap) (locs : List Loc) (ls : Array Slot), i ≤ 165 → 165 + 1 ≤ i + n → va_P D vwCl [(h0, .inr (7, [.ref h1, .long me, .ref h2, .ref h3, .ref h4, .ref h5, .int tw])), (h1, .inl (cI, 165, .inl (cpN f as i))), (h2, .inl (cI, 165, .inl as))] H → va_D A [(h0, .inr (7, [.ref h1, .long me, .ref h2, .ref h3, .ref h4, .ref h5, .int tw])), (h1, .inl (cI, 165, .inl (cpN f as i))), (h2, .inl (cI, 165, .inl as))] → va_S A s.heap H locs → lv_has ls 2 [(0, .ref h0), (1, .int (nI i))] → W p l e ({ frames := 0, cells := 0, slots := 0, locals := 0 } : Room) s m args below meth c H locs 0 0 Q (F0 m 2 ls []) := by
    intro n
    induction n with
    | zero => intro i H locs ls hi hin; exact absurd hin (by omega)
    | succ n ih =>
      intro i H locs ls hi hin hP hD hS hl
      refine lv_iload_n hx hb dX7_putBack_2 rfl (lv_at hl 1 rfl) ?_
      refine lv_sipush (v := 165) hx hb dX7_putBack_3 (by decide) ?_
      refine lv_icmp_ge (tgt := 27) hx hb dX7_putBack_6 (by decide) (fun c1 => ?_) (fun c1 => ?_)
      · have hiN : 165 = i := Nat.le_antisymm ((gd_ex (N := 165) rfl (Nat.le_of_ble_eq_true rfl) hi c1)) hi
        subst hiN
        have hP : va_P D vwCl [(h0, .inr (7, [.ref h1, .long me, .ref h2, .ref h3, .ref h4, .ref h5, .int tw])), (h1, .inl (cI, 165, .inl (cpN f as 165))), (h2, .inl (cI, 165, .inl as))] H := hP
        have hD : va_D A [(h0, .inr (7, [.ref h1, .long me, .ref h2, .ref h3, .ref h4, .ref h5, .int tw])), (h1, .inl (cI, 165, .inl (cpN f as 165))), (h2, .inl (cI, 165, .inl as))] := hD
        have hl : lv_has ls 2 [(0, .ref h0), (1, .int (nI 165))] := hl
        exact hret () _ _ _ _ _ _ _ (by first | with_reducible rfl | (simp only [a_h1_X7_putBack]; done) | rfl) hP hD hS (Nat.le_of_ble_eq_true rfl) (Nat.le_of_ble_eq_true rfl) dX7_putBack_27
      · have hiN : i < 165 := (gd_in (N := 165) rfl (Nat.le_of_ble_eq_true rfl) hi c1)
        refine lv_aload_n hx hb dX7_putBack_9 rfl (lv_at hl 0 rfl) ?_
        refine va_get (D := D) (ci := 7) (v := .ref h1) (C := RX7) (T := TX7) (N := 7) hx hb hts hi7 hown hK hP 0 rfl rfl 0 (by decide) (hts (.fieldLink RX7 7 "GridInverterModel" "at" "[I") (by decide +kernel)) (fun _ h9 => h9) rfl dX7_putBack_10 ?_
        refine lv_iload_n hx hb dX7_putBack_13 rfl (lv_at hl 1 rfl) ?_
        refine lv_aload_n hx hb dX7_putBack_14 rfl (lv_at hl 0 rfl) ?_
        refine va_get (D := D) (ci := 7) (v := .ref h2) (C := RX7) (T := TX7) (N := 7) hx hb hts hi7 hown hK hP 0 rfl rfl 2 (by decide) (hts (.fieldLink RX7 13 "GridInverterModel" "aside" "[I") (by decide +kernel)) (fun _ h9 => h9) rfl dX7_putBack_15 ?_
        refine lv_iload_n hx hb dX7_putBack_18 rfl (lv_at hl 1 rfl) ?_
        refine r_ald hx hb hK hP 2 0 rfl rfl i rfl (by omega) (Nat.le_of_ble_eq_true rfl) (v := (as i)) rfl dX7_putBack_19 ?_
        refine r_ast hx hb hK hP hD hS 1 0 rfl rfl i rfl (by omega) (Nat.le_of_ble_eq_true rfl) dX7_putBack_20 (fun H locs hP hD hS => ?_)
        obtain ⟨x2, ex2⟩ : ∃ zz_, zz_ = (upd (cpN f as i) i (as i)) := ⟨_, rfl⟩
        have hP : va_P D vwCl [(h0, .inr (7, [.ref h1, .long me, .ref h2, .ref h3, .ref h4, .ref h5, .int tw])), (h1, .inl (cI, 165, .inl x2)), (h2, .inl (cI, 165, .inl as))] H := by rw [ex2]; exact hP
        have hD : va_D A [(h0, .inr (7, [.ref h1, .long me, .ref h2, .ref h3, .ref h4, .ref h5, .int tw])), (h1, .inl (cI, 165, .inl x2)), (h2, .inl (cI, 165, .inl as))] := by rw [ex2]; exact hD
        refine lv_iinc (v := (nI (i + 1))) (lv' := [(1, .int (nI (i + 1))), (0, .ref h0)]) hx hb dX7_putBack_21 hl (k := 1) rfl (nI_1 i) (by decide) rfl (fun ls hl => ?_)
        refine lv_goto (tgt := 2) hx hb dX7_putBack_24 (by decide) ?_
        have eW : ([(h0, .inr (7, [.ref h1, .long me, .ref h2, .ref h3, .ref h4, .ref h5, .int tw])), (h1, .inl (cI, 165, .inl x2)), (h2, .inl (cI, 165, .inl as))] : va_W) = [(h0, .inr (7, [.ref h1, .long me, .ref h2, .ref h3, .ref h4, .ref h5, .int tw])), (h1, .inl (cI, 165, .inl (cpN f as (i + 1)))), (h2, .inl (cI, 165, .inl as))] := (by subst ex2; rfl)
        have eL : ([(0, .ref h0), (1, .int (nI (i + 1)))] : List (Nat × Value)) = [(0, .ref h0), (1, .int (nI (i + 1)))] := (by subst ex2; rfl)
        exact ih (i + 1) H locs ls (by omega) (by omega) (P_eq eW (hP.sub (ws' := [(h0, .inr (7, [.ref h1, .long me, .ref h2, .ref h3, .ref h4, .ref h5, .int tw])), (h1, .inl (cI, 165, .inl x2)), (h2, .inl (cI, 165, .inl as))]) [0, 1, 2] rfl)) (D_eq eW (hD.sub (ws' := [(h0, .inr (7, [.ref h1, .long me, .ref h2, .ref h3, .ref h4, .ref h5, .int tw])), (h1, .inl (cI, 165, .inl x2)), (h2, .inl (cI, 165, .inl as))]) [0, 1, 2] (by decide) rfl)) hS (L_eq eL (lv_sub (l' := [(0, .ref h0), (1, .int (nI (i + 1)))]) hl [1, 0] rfl))
  have eW : ([(h0, .inr (7, [.ref h1, .long me, .ref h2, .ref h3, .ref h4, .ref h5, .int tw])), (h1, .inl (cI, 165, .inl f)), (h2, .inl (cI, 165, .inl as))] : va_W) = [(h0, .inr (7, [.ref h1, .long me, .ref h2, .ref h3, .ref h4, .ref h5, .int tw])), (h1, .inl (cI, 165, .inl (cpN f as 0))), (h2, .inl (cI, 165, .inl as))] := by rfl
  have eL : ([(0, .ref h0), (1, .int 0)] : List (Nat × Value)) = [(0, .ref h0), (1, .int (nI 0))] := by rfl
  exact L2 (165 + 1) 0 H locs ls (by omega) (by omega) (P_eq eW (hP.sub (ws' := [(h0, .inr (7, [.ref h1, .long me, .ref h2, .ref h3, .ref h4, .ref h5, .int tw])), (h1, .inl (cI, 165, .inl f)), (h2, .inl (cI, 165, .inl as))]) [0, 1, 2] rfl)) (D_eq eW (hD.sub (ws' := [(h0, .inr (7, [.ref h1, .long me, .ref h2, .ref h3, .ref h4, .ref h5, .int tw])), (h1, .inl (cI, 165, .inl f)), (h2, .inl (cI, 165, .inl as))]) [0, 1, 2] (by decide) rfl)) hS (L_eq eL (lv_sub (l' := [(0, .ref h0), (1, .int 0)]) hl [1, 0] rfl))

def r_X7_advance (f : Nat → Int32) (p0 : Int32) : Int32 := (if (r_X7_in p0 1 2000) = 0 then 0 else ((itf f p0.toNatClampNeg) 0) : Int32)
def v_h0_energy_X7_advance (me : Int64) (f : Nat → Int32) (p0 : Int32) : Int64 := (if (r_X7_in p0 1 2000) = 0 then me else (itE f me p0.toNatClampNeg) : Int64)
def v_h0_thrown_X7_advance (p0 : Int32) : Int32 := (if (r_X7_in p0 1 2000) = 0 then 1 else 0 : Int32)
def a_h1_X7_advance (f : Nat → Int32) (p0 : Int32) : Nat → Int32 := (if (r_X7_in p0 1 2000) = 0 then f else (itf f p0.toNatClampNeg) : Nat → Int32)
set_option maxHeartbeats 4000000 in
set_option maxRecDepth 100000 in
theorem mX7_advance (l : Launch) (D : va_G) (cI cJ cZ cO : ClassId) (h0 : Nat) (h1 : Nat) (h2 : Nat) (h3 : Nat) (h4 : Nat) (h5 : Nat) (me : Int64) (tw : Int32) (f : Nat → Int32) (p0 : Int32) (B : Nat) (hO : Ok f B) (hB : B + 2000 < 2147483647) : MI l yX7_advance wsX7_advance ({ frames := 4, cells := 0, slots := 0, locals := 84 } : Room) D (tysK cI cJ cZ cO) [.ref h0, .int p0] [(h0, .inr (7, [.ref h1, .long me, .ref h2, .ref h3, .ref h4, .ref h5, .int tw])), (h1, .inl (cI, 165, .inl f))] (r_X7_advance f p0) [(h0, .inr (7, [.ref h1, .long (v_h0_energy_X7_advance me f p0), .ref h2, .ref h3, .ref h4, .ref h5, .int (v_h0_thrown_X7_advance p0)])), (h1, .inl (cI, 165, .inl (a_h1_X7_advance f p0)))] := by
  refine MI.of (cc := cX7_advance) (maxL := 3) (ret := .int) (by decide) rfl (Nat.le_of_ble_eq_true rfl) rfl ?_
  intro p e s m args below meth c A Q ls H locs B hS hP hD hl hret
  obtain ⟨hx, hb, hml, hown, hts, hK, hN, hA, hlocks⟩ := B
  have hi7 : ∀ w ∈ u_ws RX7 TX7 7, w ∈ wsX7_advance := by decide +kernel
  have hl : lv_has ls 3 [(0, .ref h0), (1, .int p0)] := hl
  refine lv_aload_n hx hb dX7_advance_0 rfl (lv_at hl 0 rfl) ?_
  refine lv_iload_n hx hb dX7_advance_1 rfl (lv_at hl 1 rfl) ?_
  refine lv_iconst (v := 1) hx hb dX7_advance_2 (by decide) ?_
  refine lv_sipush (v := 2000) hx hb dX7_advance_3 (by decide) ?_
  refine call_i (wr := [(h0, .inr (7, [.ref h1, .long me, .ref h2, .ref h3, .ref h4, .ref h5, .int tw])), (h1, .inl (cI, 165, .inl f))]) (k := 0) (n := 0) (run_S (As := [.int p0, .int 1, .int 2000]) (rest := [.ref h0]) ⟨hx, hb, hml, hown, hts⟩ (mX7_in l D cI cJ cZ cO p0 1 2000 H.size) (va_cwS 3 hts gX7_advance_X7_in rfl rfl rfl (by decide +kernel) ⟨Nat.le_of_ble_eq_true rfl, Nat.le_of_ble_eq_true rfl⟩) hK hN hP hD [] (by decide) rfl rfl rfl hl.1 (Nat.le_of_ble_eq_true rfl) dX7_advance_6 ⟨Nat.le_of_ble_eq_true rfl, Nat.le_of_ble_eq_true rfl⟩) hP hD hS hA [] [0, 1] rfl rfl (by decide) (by decide) (Nat.le_of_ble_eq_true rfl) (Nat.le_of_ble_eq_true rfl) (fun H locs hP hD hS => ?_)
  have hP : va_P D vwCl [(h0, .inr (7, [.ref h1, .long me, .ref h2, .ref h3, .ref h4, .ref h5, .int tw])), (h1, .inl (cI, 165, .inl f))] H := hP
  have hD : va_D A [(h0, .inr (7, [.ref h1, .long me, .ref h2, .ref h3, .ref h4, .ref h5, .int tw])), (h1, .inl (cI, 165, .inl f))] := hD
  have K17 : ∀ (y3 : Int32) (H : Heap) (locs : List Loc) (ls : Array Slot), y3 = (if (r_X7_in p0 1 2000) = 0 then 1 else 0 : Int32) → va_P D vwCl [(h0, .inr (7, [.ref h1, .long me, .ref h2, .ref h3, .ref h4, .ref h5, .int tw])), (h1, .inl (cI, 165, .inl f))] H → va_D A [(h0, .inr (7, [.ref h1, .long me, .ref h2, .ref h3, .ref h4, .ref h5, .int tw])), (h1, .inl (cI, 165, .inl f))] → va_S A s.heap H locs → lv_has ls 3 [(0, .ref h0), (1, .int p0)] → W p l e ({ frames := 4, cells := 0, slots := 0, locals := 84 } : Room) s m args below meth c H locs 0 0 Q (F0 m 17 ls [.int y3, .ref h0]) := by
    intro y3 H locs ls ey3 hP hD hS hl
    refine va_put (D := D) (ci := 7) (v := .int y3) (ty := .int) (C := RX7) (T := TX7) (N := 7) hx hb hts hi7 tyX7 tyX7_ok nmX7 hown hK hP hD hS 0 rfl rfl 6 (by decide) (hts (.fieldLink RX7 30 "GridInverterModel" "thrown" "I") (by decide +kernel)) (fun _ h9 => h9) rfl (by decide +kernel) rfl rfl (Nat.le_of_ble_eq_true rfl) dX7_advance_17 (fun H locs hP hD hS => ?_)
    have hP : va_P D vwCl [(h0, .inr (7, [.ref h1, .long me, .ref h2, .ref h3, .ref h4, .ref h5, .int y3])), (h1, .inl (cI, 165, .inl f))] H := hP
    have hD : va_D A [(h0, .inr (7, [.ref h1, .long me, .ref h2, .ref h3, .ref h4, .ref h5, .int y3])), (h1, .inl (cI, 165, .inl f))] := hD
    refine lv_iconst (v := 0) hx hb dX7_advance_20 (by decide) ?_
    refine lv_istore_n (lv' := [(2, .int 0), (0, .ref h0), (1, .int p0)]) hx hb dX7_advance_21 rfl hl (by decide) rfl (fun ls hl => ?_)
    by_cases s4 : (r_X7_in p0 1 2000) = 0
    · have q9 : y3 = 1 := by rw [ey3, if_pos s4]
      subst q9
      refine lv_iload_n hx hb dX7_advance_22 rfl (lv_at hl 0 rfl) ?_
      refine lv_iload_n hx hb dX7_advance_23 rfl (lv_at hl 2 rfl) ?_
      have K61 : ∀ (H : Heap) (locs : List Loc) (ls : Array Slot), va_P D vwCl [(h0, .inr (7, [.ref h1, .long me, .ref h2, .ref h3, .ref h4, .ref h5, .int 1])), (h1, .inl (cI, 165, .inl f))] H → va_D A [(h0, .inr (7, [.ref h1, .long me, .ref h2, .ref h3, .ref h4, .ref h5, .int 1])), (h1, .inl (cI, 165, .inl f))] → va_S A s.heap H locs → lv_has ls 3 [(0, .ref h0), (1, .int p0), (2, .int 0)] → W p l e ({ frames := 4, cells := 0, slots := 0, locals := 84 } : Room) s m args below meth c H locs 0 0 Q (F0 m 61 ls []) := by
        intro  H locs ls  hP hD hS hl
        refine lv_aload_n hx hb dX7_advance_61 rfl (lv_at hl 0 rfl) ?_
        refine va_get (D := D) (ci := 7) (v := .int 1) (C := RX7) (T := TX7) (N := 7) hx hb hts hi7 hown hK hP 0 rfl rfl 6 (by decide) (hts (.fieldLink RX7 30 "GridInverterModel" "thrown" "I") (by decide +kernel)) (fun _ h9 => h9) rfl dX7_advance_62 ?_
        refine lv_if_eq (tgt := 72) hx hb dX7_advance_65 (by decide) (fun h => absurd h (by decide)) (fun _ => ?_)
        refine lv_iconst (v := 0) hx hb dX7_advance_68 (by decide) ?_
        refine lv_goto (tgt := 78) hx hb dX7_advance_69 (by decide) ?_
        exact hret _ _ _ _ _ _ _ _ (by first | with_reducible rfl | (simp only [r_X7_advance, v_h0_energy_X7_advance, v_h0_thrown_X7_advance, a_h1_X7_advance, if_pos s4]; done) | rfl) (by first | with_reducible rfl | (simp only [r_X7_advance, v_h0_energy_X7_advance, v_h0_thrown_X7_advance, a_h1_X7_advance, if_pos s4]; done) | rfl) hP hD hS (Nat.le_of_ble_eq_true rfl) (Nat.le_of_ble_eq_true rfl) dX7_advance_78
      refine lv_icmp_ge (tgt := 61) hx hb dX7_advance_24 (by decide) (fun c6 => ?_) (fun c6 => ?_)
      · exact K61  _ _ _  (hP.sub [0, 1] rfl) (hD.sub [0, 1] (by decide) rfl) hS (lv_sub hl [1, 2, 0] rfl)
      · refine lv_aload_n hx hb dX7_advance_27 rfl (lv_at hl 1 rfl) ?_
        refine va_get (D := D) (ci := 7) (v := .int 1) (C := RX7) (T := TX7) (N := 7) hx hb hts hi7 hown hK hP 0 rfl rfl 6 (by decide) (hts (.fieldLink RX7 30 "GridInverterModel" "thrown" "I") (by decide +kernel)) (fun _ h9 => h9) rfl dX7_advance_28 ?_
        refine lv_if_ne (tgt := 61) hx hb dX7_advance_31 (by decide) (fun _ => ?_) (fun h => absurd h (by decide))
        exact K61  _ _ _  (hP.sub [0, 1] rfl) (hD.sub [0, 1] (by decide) rfl) hS (lv_sub hl [1, 2, 0] rfl)
    · have q9 : y3 = 0 := by rw [ey3, if_neg s4]
      subst q9
      obtain ⟨hpN, hp1, hp2⟩ := in_n (lo := 1) (hi := 2000) (by decide) (by decide) s4
      have L22 : ∀ (n i : Nat) (H : Heap) (locs : List Loc) (ls : Array Slot), i ≤ p0.toNatClampNeg → p0.toNatClampNeg + 1 ≤ i + n → va_P D vwCl [(h0, .inr (7, [.ref h1, .long (itE f me i), .ref h2, .ref h3, .ref h4, .ref h5, .int 0])), (h1, .inl (cI, 165, .inl (itf f i)))] H → va_D A [(h0, .inr (7, [.ref h1, .long (itE f me i), .ref h2, .ref h3, .ref h4, .ref h5, .int 0])), (h1, .inl (cI, 165, .inl (itf f i)))] → va_S A s.heap H locs → lv_has ls 3 [(0, .ref h0), (1, .int p0), (2, .int (nI i))] → W p l e ({ frames := 4, cells := 0, slots := 0, locals := 84 } : Room) s m args below meth c H locs 0 0 Q (F0 m 22 ls []) := by
        intro n
        induction n with
        | zero => intro i H locs ls hi hin; exact absurd hin (by omega)
        | succ n ih =>
          intro i H locs ls hi hin hP hD hS hl
          refine lv_iload_n hx hb dX7_advance_22 rfl (lv_at hl 2 rfl) ?_
          refine lv_iload_n hx hb dX7_advance_23 rfl (lv_at hl 1 rfl) ?_
          refine lv_icmp_ge (tgt := 61) hx hb dX7_advance_24 (by decide) (fun c7 => ?_) (fun c7 => ?_)
          · have hiN : p0.toNatClampNeg = i := Nat.le_antisymm ((gd_ex hpN (by omega) hi c7)) hi
            subst hiN
            have hP : va_P D vwCl [(h0, .inr (7, [.ref h1, .long (itE f me p0.toNatClampNeg), .ref h2, .ref h3, .ref h4, .ref h5, .int 0])), (h1, .inl (cI, 165, .inl (itf f p0.toNatClampNeg)))] H := hP
            have hD : va_D A [(h0, .inr (7, [.ref h1, .long (itE f me p0.toNatClampNeg), .ref h2, .ref h3, .ref h4, .ref h5, .int 0])), (h1, .inl (cI, 165, .inl (itf f p0.toNatClampNeg)))] := hD
            have hl : lv_has ls 3 [(0, .ref h0), (1, .int p0), (2, .int (nI p0.toNatClampNeg))] := hl
            refine lv_aload_n hx hb dX7_advance_61 rfl (lv_at hl 0 rfl) ?_
            refine va_get (D := D) (ci := 7) (v := .int 0) (C := RX7) (T := TX7) (N := 7) hx hb hts hi7 hown hK hP 0 rfl rfl 6 (by decide) (hts (.fieldLink RX7 30 "GridInverterModel" "thrown" "I") (by decide +kernel)) (fun _ h9 => h9) rfl dX7_advance_62 ?_
            refine lv_if_eq (tgt := 72) hx hb dX7_advance_65 (by decide) (fun _ => ?_) (fun h => absurd (by decide) h)
            refine lv_aload_n hx hb dX7_advance_72 rfl (lv_at hl 0 rfl) ?_
            refine va_get (D := D) (ci := 7) (v := .ref h1) (C := RX7) (T := TX7) (N := 7) hx hb hts hi7 hown hK hP 0 rfl rfl 0 (by decide) (hts (.fieldLink RX7 7 "GridInverterModel" "at" "[I") (by decide +kernel)) (fun _ h9 => h9) rfl dX7_advance_73 ?_
            refine lv_iconst (v := 0) hx hb dX7_advance_76 (by decide) ?_
            refine r_ald hx hb hK hP 1 0 rfl rfl 0 rfl (Nat.le_of_ble_eq_true rfl) (Nat.le_of_ble_eq_true rfl) (v := ((itf f p0.toNatClampNeg) 0)) rfl dX7_advance_77 ?_
            refine lv_topi (fun x8 ex8 => ?_)
            exact hret _ _ _ _ _ _ _ _ (by subst ex8; first | with_reducible rfl | (simp only [r_X7_advance, v_h0_energy_X7_advance, v_h0_thrown_X7_advance, a_h1_X7_advance, if_neg s4]; done) | rfl) (by subst ex8; first | with_reducible rfl | (simp only [r_X7_advance, v_h0_energy_X7_advance, v_h0_thrown_X7_advance, a_h1_X7_advance, if_neg s4]; done) | rfl) hP hD hS (Nat.le_of_ble_eq_true rfl) (Nat.le_of_ble_eq_true rfl) dX7_advance_78
          · have hiN : i < p0.toNatClampNeg := (gd_in hpN (by omega) hi c7)
            refine lv_aload_n hx hb dX7_advance_27 rfl (lv_at hl 0 rfl) ?_
            refine va_get (D := D) (ci := 7) (v := .int 0) (C := RX7) (T := TX7) (N := 7) hx hb hts hi7 hown hK hP 0 rfl rfl 6 (by decide) (hts (.fieldLink RX7 30 "GridInverterModel" "thrown" "I") (by decide +kernel)) (fun _ h9 => h9) rfl dX7_advance_28 ?_
            refine lv_if_ne (tgt := 61) hx hb dX7_advance_31 (by decide) (fun h => absurd rfl h) (fun _ => ?_)
            refine lv_aload_n hx hb dX7_advance_34 rfl (lv_at hl 0 rfl) ?_
            refine call_v (wr := []) (k := 0) (n := 0) (run_V (As := []) (rest := []) ⟨hx, hb, hml, hown, hts⟩ (mK7 l D cI cJ cZ cO h0 h1 h2 h3 h4 h5 (itE f me i) 0 (itf f i) (B + i) (ok_it hO i (by omega)) (by omega) H.size) (cwV 0 hts gX7_advance_X7_tick rfl rfl rfl (by decide +kernel) ⟨Nat.le_of_ble_eq_true rfl, Nat.le_of_ble_eq_true rfl⟩) hK hN hP hD [0, 1] (by decide) rfl 7 0 rfl rfl rfl rfl rfl hl.1 (Nat.le_of_ble_eq_true rfl) dX7_advance_35 ⟨Nat.le_of_ble_eq_true rfl, Nat.le_of_ble_eq_true rfl⟩) hP hD hS hA [0, 1] [] rfl rfl (by decide) (by decide) (Nat.le_of_ble_eq_true rfl) (Nat.le_of_ble_eq_true rfl) (fun _ H locs hP hD hS => ?_)
            have hP : va_P D vwCl [(h0, .inr (7, [.ref h1, .long (itE f me i), .ref h2, .ref h3, .ref h4, .ref h5, .int 0])), (h1, .inl (cI, 165, .inl (tickN (itf f i))))] H := hP
            have hD : va_D A [(h0, .inr (7, [.ref h1, .long (itE f me i), .ref h2, .ref h3, .ref h4, .ref h5, .int 0])), (h1, .inl (cI, 165, .inl (tickN (itf f i))))] := hD
            refine lv_aload_n hx hb dX7_advance_38 rfl (lv_at hl 0 rfl) ?_
            refine lv_dup hx hb dX7_advance_39 rfl ?_
            refine va_get (D := D) (ci := 7) (v := .long (itE f me i)) (C := RX7) (T := TX7) (N := 7) hx hb hts hi7 hown hK hP 0 rfl rfl 1 (by decide) (hts (.fieldLink RX7 91 "GridInverterModel" "energy" "J") (by decide +kernel)) (fun _ h9 => h9) rfl dX7_advance_40 ?_
            refine lv_aload_n hx hb dX7_advance_43 rfl (lv_at hl 0 rfl) ?_
            refine va_get (D := D) (ci := 7) (v := .ref h1) (C := RX7) (T := TX7) (N := 7) hx hb hts hi7 hown hK hP 0 rfl rfl 0 (by decide) (hts (.fieldLink RX7 7 "GridInverterModel" "at" "[I") (by decide +kernel)) (fun _ h9 => h9) rfl dX7_advance_44 ?_
            refine lv_bipush (v := 9) hx hb dX7_advance_47 (by decide) ?_
            refine r_ald hx hb hK hP 1 0 rfl rfl 9 rfl (Nat.le_of_ble_eq_true rfl) (Nat.le_of_ble_eq_true rfl) (v := ((tickN (itf f i)) 9)) rfl dX7_advance_49 ?_
            refine lv_i2l hx hb dX7_advance_50 rfl ?_
            refine lv_ladd hx hb dX7_advance_51 ?_
            refine lv_topl (fun x9 ex9 => ?_)
            refine va_put (D := D) (ci := 7) (v := .long x9) (ty := .long) (C := RX7) (T := TX7) (N := 7) hx hb hts hi7 tyX7 tyX7_ok nmX7 hown hK hP hD hS 0 rfl rfl 1 (by decide) (hts (.fieldLink RX7 91 "GridInverterModel" "energy" "J") (by decide +kernel)) (fun _ h9 => h9) rfl (by decide +kernel) rfl rfl (Nat.le_of_ble_eq_true rfl) dX7_advance_52 (fun H locs hP hD hS => ?_)
            have hP : va_P D vwCl [(h0, .inr (7, [.ref h1, .long x9, .ref h2, .ref h3, .ref h4, .ref h5, .int 0])), (h1, .inl (cI, 165, .inl (tickN (itf f i))))] H := hP
            have hD : va_D A [(h0, .inr (7, [.ref h1, .long x9, .ref h2, .ref h3, .ref h4, .ref h5, .int 0])), (h1, .inl (cI, 165, .inl (tickN (itf f i))))] := hD
            refine lv_iinc (v := (nI (i + 1))) (lv' := [(2, .int (nI (i + 1))), (0, .ref h0), (1, .int p0)]) hx hb dX7_advance_55 hl (k := 2) rfl (nI_1 i) (by decide) rfl (fun ls hl => ?_)
            refine lv_goto (tgt := 22) hx hb dX7_advance_58 (by decide) ?_
            have eW : ([(h0, .inr (7, [.ref h1, .long x9, .ref h2, .ref h3, .ref h4, .ref h5, .int 0])), (h1, .inl (cI, 165, .inl (tickN (itf f i))))] : va_W) = [(h0, .inr (7, [.ref h1, .long (itE f me (i + 1)), .ref h2, .ref h3, .ref h4, .ref h5, .int 0])), (h1, .inl (cI, 165, .inl (itf f (i + 1))))] := (by subst ex9; rfl)
            have eL : ([(0, .ref h0), (1, .int p0), (2, .int (nI (i + 1)))] : List (Nat × Value)) = [(0, .ref h0), (1, .int p0), (2, .int (nI (i + 1)))] := (by subst ex9; rfl)
            exact ih (i + 1) H locs ls (by omega) (by omega) (P_eq eW (hP.sub (ws' := [(h0, .inr (7, [.ref h1, .long x9, .ref h2, .ref h3, .ref h4, .ref h5, .int 0])), (h1, .inl (cI, 165, .inl (tickN (itf f i))))]) [0, 1] rfl)) (D_eq eW (hD.sub (ws' := [(h0, .inr (7, [.ref h1, .long x9, .ref h2, .ref h3, .ref h4, .ref h5, .int 0])), (h1, .inl (cI, 165, .inl (tickN (itf f i))))]) [0, 1] (by decide) rfl)) hS (L_eq eL (lv_sub (l' := [(0, .ref h0), (1, .int p0), (2, .int (nI (i + 1)))]) hl [1, 2, 0] rfl))
      have eW : ([(h0, .inr (7, [.ref h1, .long me, .ref h2, .ref h3, .ref h4, .ref h5, .int 0])), (h1, .inl (cI, 165, .inl f))] : va_W) = [(h0, .inr (7, [.ref h1, .long (itE f me 0), .ref h2, .ref h3, .ref h4, .ref h5, .int 0])), (h1, .inl (cI, 165, .inl (itf f 0)))] := by rfl
      have eL : ([(0, .ref h0), (1, .int p0), (2, .int 0)] : List (Nat × Value)) = [(0, .ref h0), (1, .int p0), (2, .int (nI 0))] := by rfl
      exact L22 (p0.toNatClampNeg + 1) 0 H locs ls (by omega) (by omega) (P_eq eW (hP.sub (ws' := [(h0, .inr (7, [.ref h1, .long me, .ref h2, .ref h3, .ref h4, .ref h5, .int 0])), (h1, .inl (cI, 165, .inl f))]) [0, 1] rfl)) (D_eq eW (hD.sub (ws' := [(h0, .inr (7, [.ref h1, .long me, .ref h2, .ref h3, .ref h4, .ref h5, .int 0])), (h1, .inl (cI, 165, .inl f))]) [0, 1] (by decide) rfl)) hS (L_eq eL (lv_sub (l' := [(0, .ref h0), (1, .int p0), (2, .int 0)]) hl [1, 2, 0] rfl))
  refine lv_if_eq (tgt := 16) hx hb dX7_advance_9 (by decide) (fun c2 => ?_) (fun c2 => ?_)
  · refine lv_iconst (v := 1) hx hb dX7_advance_16 (by decide) ?_
    exact K17 _ _ _ _ (by first | with_reducible rfl | (simp only [if_pos c2]; done) | rfl) (hP.sub [0, 1] rfl) (hD.sub [0, 1] (by decide) rfl) hS (lv_sub hl [0, 1] rfl)
  · refine lv_iconst (v := 0) hx hb dX7_advance_12 (by decide) ?_
    refine lv_goto (tgt := 17) hx hb dX7_advance_13 (by decide) ?_
    exact K17 _ _ _ _ (by first | with_reducible rfl | (simp only [if_neg c2]; done) | rfl) (hP.sub [0, 1] rfl) (hD.sub [0, 1] (by decide) rfl) hS (lv_sub hl [0, 1] rfl)
