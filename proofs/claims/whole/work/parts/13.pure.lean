section PURE2
abbrev rg (x : Int32) (a b : Int) : Prop := a ≤ x.toInt ∧ x.toInt ≤ b
theorem lt_ti {a b : Int32} : a < b ↔ a.toInt < b.toInt := Int32.lt_iff_toInt_lt
theorem le_ti {a b : Int32} : a ≤ b ↔ a.toInt ≤ b.toInt := Int32.le_iff_toInt_le
theorem lim_eq (x : Int32) : r_X6_limitedFrequency x = r_X7_limited x 40000 70000 := by
  have e4 : ((40000 : Int32)).toInt = 40000 := rfl
  have e7 : ((70000 : Int32)).toInt = 70000 := rfl
  unfold r_X6_limitedFrequency r_X7_limited
  by_cases h7 : 70000 < x
  · have q7 := h7
    rw [lt_ti, e7] at q7
    rw [if_pos h7, if_pos (by rw [lt_ti, e4, e7]; omega), if_pos (by rw [le_ti, e4]; omega), if_neg (by rw [le_ti, e7]; omega)]
  · have q7 := h7
    rw [lt_ti, e7] at q7
    rw [if_neg h7]
    by_cases h4 : 40000 < x
    · have q4 := h4
      rw [lt_ti, e4] at q4
      rw [if_pos h4, if_pos (by rw [le_ti, e4]; omega), if_pos (by rw [le_ti, e7]; omega)]
    · have q4 := h4
      rw [lt_ti, e4] at q4
      rw [if_neg h4]
      by_cases h5 : 40000 ≤ x
      · have q5 := h5
        rw [le_ti, e4] at q5
        rw [if_pos h5, if_pos (by rw [le_ti, e7]; omega)]
        exact i32_eq (by rw [e4]; omega)
      · rw [if_neg h5]
theorem lim_rg (x : Int32) (a b : Nat) (hab : a ≤ b) (hb : b < 2147483648) : rg (r_X7_limited x (nI a) (nI b)) a b := by
  have ea : (nI a).toInt = (a : Int) := nI_toInt (by omega)
  have eb : (nI b).toInt = (b : Int) := nI_toInt hb
  unfold r_X7_limited
  by_cases h1 : nI a ≤ x
  · rw [if_pos h1]
    rw [le_ti, ea] at h1
    by_cases h2 : x ≤ nI b
    · rw [if_pos h2]
      rw [le_ti, eb] at h2
      exact ⟨h1, h2⟩
    · rw [if_neg h2]
      exact ⟨by rw [eb]; omega, by rw [eb]; omega⟩
  · rw [if_neg h1]
    exact ⟨by rw [ea]; omega, by rw [ea]; omega⟩
theorem out_in {x lo hi : Int32} : r_X6_outside x lo hi = 0 ↔ ¬ r_X7_in x lo hi = 0 := by
  unfold r_X6_outside r_X7_in
  by_cases h1 : x < lo
  · rw [if_pos h1, if_pos h1]; decide
  · rw [if_neg h1, if_neg h1]
    by_cases h2 : hi < x
    · have h3 : ¬ x ≤ hi := by rw [le_ti]; rw [lt_ti] at h2; omega
      rw [if_pos h2, if_neg h3]; decide
    · have h3 : x ≤ hi := by rw [le_ti]; rw [lt_ti] at h2; omega
      rw [if_neg h2, if_pos h3]; decide
theorem in_rg {x : Int32} {a b : Int} {lo hi : Int32} (hlo : lo.toInt = a) (hhi : hi.toInt = b) (h : ¬ r_X7_in x lo hi = 0) : rg x a b := by
  obtain ⟨h1, h2⟩ := in_ok h
  rw [lt_ti, hlo] at h1
  rw [lt_ti, hhi] at h2
  exact ⟨by omega, by omega⟩
/-- the angle error, both ways -/
theorem err_eq {d : Int32} (h : rg d (-2000000) 2000000) : r_J9_floorMod_7cf53 (d + 500000) 1000000 - 500000 = (if r_X7_round d < 500000 then r_X7_round d else r_X7_round d - 1000000 : Int32) := by
  have e5 : ((500000 : Int32)).toInt = 500000 := rfl
  have e1 : ((1000000 : Int32)).toInt = 1000000 := rfl
  obtain ⟨h1, h2⟩ := h
  have hs : (d + 500000).toInt = d.toInt + 500000 := by rw [ti_add (by rw [e5]; omega) (by rw [e5]; omega), e5]
  rw [fm_rnd]
  have r1 := rnd_toInt (d + 500000)
  have r2 := rnd_toInt d
  rw [hs] at r1
  apply i32_eq
  rw [ti_sub (by rw [r1, e5]; omega) (by rw [r1, e5]; omega), r1, e5]
  by_cases hc : r_X7_round d < 500000
  · rw [if_pos hc, r2]
    rw [lt_ti, r2, e5] at hc
    omega
  · rw [if_neg hc, ti_sub (by rw [r2, e1]; omega) (by rw [r2, e1]; omega), r2, e1]
    rw [lt_ti, r2, e5] at hc
    omega
/-- what is known of the numbers of a simulation -/
def Inv (f : Nat → Int32) : Prop :=
  rg (f 2) 40000 70000 ∧ rg (f 3) 0 999999 ∧ rg (f 4) 0 999999 ∧ rg (f 5) 40000 70000 ∧ rg (f 9) 0 5000 ∧ (f 20 = 1 ∨ f 9 = 0) ∧ (f 10 = 0 ∨ f 10 = 1) ∧ rg (f 12) 45000 65000 ∧ rg (f 13) 1 5000 ∧ rg (f 19) 1 500 ∧ rg (f 21) 1 5000 ∧ rg (f 23) 1 5000 ∧ (∀ k, k < 20 → rg (f (33 + k)) 40000 70000)
theorem fl_far (g : Nat → Int32) {k : Nat} (h1 : k ≠ 1) (h2 : k ≠ 2) (h3 : k ≠ 3) : a_h1_X7_feedLine g k = g k := by
  unfold a_h1_X7_feedLine
  split
  · simp only [upd, if_neg h1, if_neg h2, if_neg h3]
  · split <;> simp only [upd, if_neg h1, if_neg h2, if_neg h3]
theorem fl_1 {g : Nat → Int32} (h10 : g 10 = 0 ∨ g 10 = 1) (h9 : rg (g 9) 0 5000) (h13 : rg (g 13) 1 5000) : a_h1_X7_feedLine g 1 = v_h0_voltage_X1_settle (g 10) (g 11) (g 13) (g 9) := by
  have e0 : ((0 : Int32)).toInt = 0 := rfl
  have e230 : ((230 : Int32)).toInt = 230 := rfl
  have e400 : ((400 : Int32)).toInt = 400 := rfl
  unfold a_h1_X7_feedLine v_h0_voltage_X1_settle
  rcases h10 with h | h
  · rw [if_neg (show ¬ g 10 = 1 by rw [h]; decide), if_pos h]
    by_cases hp : g 9 = 0
    · have h0 : ∀ (a c : Int32) (k : Nat → Int32), upd (upd k 1 a) 3 c 1 = a := fun _ _ _ => rfl
      rw [if_pos hp, if_pos (show g 9 ≤ 0 by rw [hp]; decide), h0]
    · have hp1 : 1 ≤ (g 9).toInt := by
        rcases Int.lt_or_le 0 (g 9).toInt with q | q
        · exact q
        · exact absurd (i32_eq (by rw [e0]; have := h9.1; omega)) hp
      rw [if_neg hp, if_neg (show ¬ g 9 ≤ 0 by rw [le_ti, e0]; omega)]
      have hm : (230 * g 9).toInt = 230 * (g 9).toInt := by
        have := h9.2
        rw [ti_mul (by rw [e230]; omega) (by rw [e230]; omega), e230]
      have b1 : 0 ≤ (230 * (g 9).toInt) / (g 13).toInt := Int.ediv_nonneg (by omega) (by have := h13.1; omega)
      have hq : ((230 * g 9) / g 13).toInt = (230 * (g 9).toInt) / (g 13).toInt := by
        have a1 := h9.2
        have b2 : (230 * (g 9).toInt) / (g 13).toInt ≤ 230 * (g 9).toInt := Int.ediv_le_self _ (by omega)
        rw [Int32.toInt_div, hm, tdiv_nn _ (by omega), bm (by omega) (by omega)]
      have c1 : ¬ g 13 ≤ 0 := by rw [le_ti, e0]; have := h13.1; omega
      have c2 : 0 ≤ (230 * g 9) / g 13 := by rw [le_ti, hq, e0]; exact b1
      have h0 : ∀ (a b c : Int32) (k : Nat → Int32), upd (upd (upd k 1 a) 2 b) 3 c 1 = a := fun _ _ _ _ => rfl
      rw [h0]
      unfold r_X1_islandVoltage r_X7_limited
      rw [if_neg c1, if_pos c2]
      by_cases hl : (230 * g 9) / g 13 ≤ 400
      · have c3 : ¬ 400 < (230 * g 9) / g 13 := by rw [le_ti] at hl; rw [lt_ti]; omega
        rw [if_pos hl, if_neg c3]
      · have c3 : 400 < (230 * g 9) / g 13 := by rw [le_ti] at hl; rw [lt_ti]; omega
        rw [if_neg hl, if_pos c3]
  · rw [if_pos h, if_neg (show ¬ g 10 = 0 by rw [h]; decide)]
    have h0 : ∀ (a b c : Int32) (k : Nat → Int32), upd (upd (upd k 1 a) 2 b) 3 c 1 = a := fun _ _ _ _ => rfl
    rw [h0]
theorem fl_2 {g : Nat → Int32} (h10 : g 10 = 0 ∨ g 10 = 1) (h9 : rg (g 9) 0 5000) : a_h1_X7_feedLine g 2 = v_h0_frequency_X1_settle (g 2) (g 10) (g 12) (g 14) (g 15) (g 9) (r_X0_drifted (g 28) (g 29) (g 5)) := by
  have e0 : ((0 : Int32)).toInt = 0 := rfl
  have y1 : ∀ (k : Nat → Int32) (a b c : Int32), upd (upd (upd k 1 a) 2 b) 3 c 2 = b := fun _ _ _ _ => rfl
  have y3 : ∀ (k : Nat → Int32) (a c : Int32), upd (upd k 1 a) 3 c 2 = k 2 := fun _ _ _ => rfl
  unfold a_h1_X7_feedLine v_h0_frequency_X1_settle
  rcases h10 with h | h
  · rw [if_neg (show ¬ g 10 = 1 by rw [h]; decide), if_pos h]
    by_cases hp : g 9 = 0
    · rw [if_pos hp, if_pos (show g 9 ≤ 0 by rw [hp]; decide), y3]
    · have hp1 : 1 ≤ (g 9).toInt := by
        rcases Int.lt_or_le 0 (g 9).toInt with q | q
        · exact q
        · exact absurd (i32_eq (by rw [e0]; have := h9.1; omega)) hp
      rw [if_neg hp, if_neg (show ¬ g 9 ≤ 0 by rw [le_ti, e0]; omega), y1]
      unfold r_X1_islandFrequency r_X0_drifted
      rw [lim_eq]
  · rw [if_pos h, if_neg (show ¬ g 10 = 0 by rw [h]; decide), y1]
theorem u1 (k : Nat → Int32) (a b c : Int32) : upd (upd (upd k 1 a) 2 b) 3 c 2 = b := rfl
theorem u2 (k : Nat → Int32) (a b c : Int32) : upd (upd (upd k 1 a) 2 b) 3 c 3 = c := rfl
theorem u3 (k : Nat → Int32) (a c : Int32) : upd (upd k 1 a) 3 c 2 = k 2 := rfl
theorem u4 (k : Nat → Int32) (a c : Int32) : upd (upd k 1 a) 3 c 3 = c := rfl
theorem fl_3 (g : Nat → Int32) : a_h1_X7_feedLine g 3 = v_h0_angle_X1_turn (g 3) (a_h1_X7_feedLine g 2) := by
  unfold v_h0_angle_X1_turn
  rw [fm_rnd]
  unfold a_h1_X7_feedLine
  by_cases h1 : g 10 = 1
  · rw [if_pos h1, u1, u2]
  · rw [if_neg h1]
    by_cases h2 : g 9 = 0
    · rw [if_pos h2, u3, u4]
    · rw [if_neg h2, u1, u2]
theorem fl_2r {g : Nat → Int32} (h2 : rg (g 2) 40000 70000) (h12 : rg (g 12) 45000 65000) : rg (a_h1_X7_feedLine g 2) 40000 70000 := by
  unfold a_h1_X7_feedLine
  by_cases h1 : g 10 = 1
  · rw [if_pos h1, u1]
    exact ⟨by have := h12.1; omega, by have := h12.2; omega⟩
  · rw [if_neg h1]
    by_cases h9 : g 9 = 0
    · rw [if_pos h9, u3]; exact h2
    · rw [if_neg h9, u1]; exact lim_rg _ 40000 70000 (by decide) (by decide)
theorem fl_3r (g : Nat → Int32) : rg (a_h1_X7_feedLine g 3) 0 999999 := by
  rw [fl_3]
  unfold v_h0_angle_X1_turn
  rw [fm_rnd]
  exact rnd_rg _
theorem fo_far (g : Nat → Int32) {k : Nat} (h4 : k ≠ 4) (h5 : k ≠ 5) (h6 : k ≠ 6) (h7 : k ≠ 7) : a_h1_X7_follow g k = g k := by
  unfold a_h1_X7_follow
  split <;> simp only [upd, if_neg h4, if_neg h5, if_neg h6, if_neg h7]
theorem fo_d {g : Nat → Int32} (h3 : rg (g 3) 0 999999) (h4 : rg (g 4) 0 999999) (h5 : rg (g 5) 40000 70000) : rg (g 3 - (g 4 + g 5)) (-2000000) 2000000 := by
  have hs : (g 4 + g 5).toInt = (g 4).toInt + (g 5).toInt := ti_add (by have := h4.1; have := h5.1; omega) (by have := h4.2; have := h5.2; omega)
  have a1 := h3.1
  have a2 := h3.2
  have b1 := h4.1
  have b2 := h4.2
  have c1 := h5.1
  have c2 := h5.2
  have hd : (g 3 - (g 4 + g 5)).toInt = (g 3).toInt - ((g 4).toInt + (g 5).toInt) := by
    rw [ti_sub (by rw [hs]; omega) (by rw [hs]; omega), hs]
  exact ⟨by rw [hd]; omega, by rw [hd]; omega⟩
theorem w4 (k : Nat → Int32) (a b c d : Int32) : upd (upd (upd (upd k 6 a) 4 b) 5 c) 7 d 4 = b := rfl
theorem w5 (k : Nat → Int32) (a b c d : Int32) : upd (upd (upd (upd k 6 a) 4 b) 5 c) 7 d 5 = c := rfl
theorem w6 (k : Nat → Int32) (a b c d : Int32) : upd (upd (upd (upd k 6 a) 4 b) 5 c) 7 d 6 = a := rfl
theorem w7 (k : Nat → Int32) (a b c d : Int32) : upd (upd (upd (upd k 6 a) 4 b) 5 c) 7 d 7 = d := rfl
theorem z4 (k : Nat → Int32) (a b d : Int32) : upd (upd (upd k 6 a) 4 b) 7 d 4 = b := rfl
theorem z5 (k : Nat → Int32) (a b d : Int32) : upd (upd (upd k 6 a) 4 b) 7 d 5 = k 5 := rfl
theorem z6 (k : Nat → Int32) (a b d : Int32) : upd (upd (upd k 6 a) 4 b) 7 d 6 = a := rfl
theorem z7 (k : Nat → Int32) (a b d : Int32) : upd (upd (upd k 6 a) 4 b) 7 d 7 = d := rfl
theorem fo_4 {g : Nat → Int32} (h3 : rg (g 3) 0 999999) (h4 : rg (g 4) 0 999999) (h5 : rg (g 5) 40000 70000) : a_h1_X7_follow g 4 = v_h0_angle_X3_follow (g 4) (g 5) (g 16) (g 3) (g 1) := by
  unfold a_h1_X7_follow v_h0_angle_X3_follow
  rw [err_eq (fo_d h3 h4 h5), fm_rnd, fm_rnd]
  by_cases h1 : g 1 < 20
  · rw [if_pos h1, if_pos h1, z4]
  · rw [if_neg h1, if_neg h1, w4]
theorem fo_5 {g : Nat → Int32} (h3 : rg (g 3) 0 999999) (h4 : rg (g 4) 0 999999) (h5 : rg (g 5) 40000 70000) : a_h1_X7_follow g 5 = v_h0_frequency_X3_follow (g 4) (g 5) (g 17) (g 3) (g 1) := by
  unfold a_h1_X7_follow v_h0_frequency_X3_follow
  rw [err_eq (fo_d h3 h4 h5), lim_eq]
  by_cases h1 : g 1 < 20
  · rw [if_pos h1, if_pos h1, z5]
  · rw [if_neg h1, if_neg h1, w5]
theorem fo_6 {g : Nat → Int32} (h3 : rg (g 3) 0 999999) (h4 : rg (g 4) 0 999999) (h5 : rg (g 5) 40000 70000) : a_h1_X7_follow g 6 = v_h0_error_X3_follow (g 4) (g 5) (g 3) (g 1) := by
  unfold a_h1_X7_follow v_h0_error_X3_follow
  rw [err_eq (fo_d h3 h4 h5)]
  by_cases h1 : g 1 < 20
  · rw [if_pos h1, if_pos h1, z6]
  · rw [if_neg h1, if_neg h1, w6]
theorem out_if {x lo hi : Int32} (a b : Int32) : (if r_X6_outside x lo hi = 0 then a else b : Int32) = (if r_X7_in x lo hi = 0 then b else a : Int32) := by
  by_cases h : r_X7_in x lo hi = 0
  · rw [if_pos h, if_neg (fun q => (out_in.mp q) h)]
  · rw [if_neg h, if_pos (out_in.mpr h)]
theorem fo_7 {g : Nat → Int32} (h3 : rg (g 3) 0 999999) (h4 : rg (g 4) 0 999999) (h5 : rg (g 5) 40000 70000) : a_h1_X7_follow g 7 = v_h0_lockCount_X3_follow (g 4) (g 5) (g 18) (g 7) (g 3) (g 1) := by
  unfold a_h1_X7_follow v_h0_lockCount_X3_follow
  rw [err_eq (fo_d h3 h4 h5), out_if]
  by_cases h1 : g 1 < 20
  · rw [if_pos h1, if_pos h1, z7]
  · rw [if_neg h1, if_neg h1, w7]
theorem fo_4r (g : Nat → Int32) : rg (a_h1_X7_follow g 4) 0 999999 := by
  unfold a_h1_X7_follow
  by_cases h1 : g 1 < 20
  · rw [if_pos h1, z4]; exact rnd_rg _
  · rw [if_neg h1, w4]; exact rnd_rg _
theorem fo_5r {g : Nat → Int32} (h5 : rg (g 5) 40000 70000) : rg (a_h1_X7_follow g 5) 40000 70000 := by
  unfold a_h1_X7_follow
  by_cases h1 : g 1 < 20
  · rw [if_pos h1, z5]; exact h5
  · rw [if_neg h1, w5]; exact lim_rg _ 40000 70000 (by decide) (by decide)
end PURE2
