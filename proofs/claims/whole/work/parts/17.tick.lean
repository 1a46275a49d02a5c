section TICK2
/-- the cells of a simulation whose numbers are f, whose counts are c and whose energy is E -/
def simW (cI : ClassId) (a : Nat → Nat) (f c : Nat → Int32) (E : Int64) : va_W :=
  [(a 0, .inr (5, [.int (f 0), .ref (a 1), .ref (a 2), .ref (a 3), .ref (a 4), .ref (a 5)])),
   (a 1, .inr (1, [.int (f 1), .int (f 2), .int (f 3), .int (f 10), .int (f 11), .int (f 12), .int (f 13), .int (f 14), .int (f 15)])),
   (a 2, .inr (3, [.int (f 4), .int (f 5), .int (f 6), .int (f 16), .int (f 17), .int (f 18), .int (f 19), .int (f 7), .ref (a 6)])),
   (a 3, .inr (0, [.int (f 20), .int (f 9), .int (f 21), .int (f 22), .int (f 23), .int (f 8), .int (f 24), .int (f 25), .int (f 26), .int (f 27), .int (f 28), .int (f 29), .long E, .int (f 31)])),
   (a 4, .inr (4, [.int (f 30), .ref (a 7), .ref (a 8), .ref (a 9), .ref (a 10)])),
   (a 5, .inr (2, [.int (f 32), .ref (a 11), .ref (a 12)])),
   (a 6, .inl (cI, 20, .inl (fun k => f (33 + k)))), (a 7, .inl (cI, 8, .inl (fun k => f (53 + k)))), (a 8, .inl (cI, 8, .inl (fun k => f (61 + k)))), (a 9, .inl (cI, 8, .inl (fun k => f (69 + k)))), (a 10, .inl (cI, 8, .inl c)),
   (a 11, .inl (cI, 40, .inl (fun k => f (85 + k)))), (a 12, .inl (cI, 40, .inl (fun k => f (125 + k))))]
/-- the class's counts behind a tick -/
def nextC (f c : Nat → Int32) (t z : Nat) : Nat → Int32 :=
  a_h10_X5_tick (f 20) c (if rdy (preT f) < f 22 then c else fillN c 0 8) (a_h10_X5_protect (preT f 1) (preT f 5) (f 19) (preT f 7) (fun k => f (53 + k)) (fun k => f (61 + k)) c (r_X3_changeUntil (preT f 5) (fun k => f (33 + k)) (t + 1)) z)
section
variable {f c : Nat → Int32} {t z q : Nat}
theorem tk_20 (hI : Inv f) (hz : z ≤ 8) (ha : Agr c f z) : tickS f t z q 20 = v_h3_mode_X5_tick (f 20) (v_h3_mode_X5_prepare (preT f 1) (preT f 5) (f 19) (preT f 7) (f 20) (f 22) (f 8) (f 24) (f 25) (f 26) (f 27)) (v_h3_mode_X5_protect (preT f 1) (preT f 5) (f 19) (preT f 7) (f 20) (fun k => f (53 + k)) (fun k => f (61 + k)) (fun k => f (69 + k)) c (r_X3_changeUntil (preT f 5) (fun k => f (33 + k)) (t + 1)) z) := by
  have r := run_20 (q := q) (t := t + 1) hz (pre_5r hI) (pre_pr hI) (pre_ag ha)
  have w := aw_20 (g := preT f) (q := q) hz
  rw [← pr_20] at w
  simp only [pre_fn (f := f) 53 (by decide), pre_fn (f := f) 61 (by decide), pre_fn (f := f) 69 (by decide), pre_fn (f := f) 33 (by decide), pre_far f (show 8 ≤ 19 by decide), pre_far f (show 8 ≤ 20 by decide), pre_far f (show 8 ≤ 22 by decide), pre_far f (show 8 ≤ 8 by decide), pre_far f (show 8 ≤ 24 by decide), pre_far f (show 8 ≤ 25 by decide), pre_far f (show 8 ≤ 26 by decide), pre_far f (show 8 ≤ 27 by decide)] at r w
  unfold tickS v_h3_mode_X5_tick
  rw [fin_far _ _ (by decide) (by omega)]
  unfold midT
  rw [pre_far f (show 8 ≤ 20 by decide)]
  by_cases h1 : f 20 = 1
  · rw [if_pos h1, if_pos h1, r]
  · rw [if_neg h1, if_neg h1]
    by_cases h2 : f 20 = 0
    · rw [if_pos h2, if_pos h2, w]
    · rw [if_neg h2, if_neg h2, pre_far f (by decide)]
theorem tk_9 (hI : Inv f) (hz : z ≤ 8) (ha : Agr c f z) : tickS f t z q 9 = v_h3_power_X5_tick (f 20) (f 9) (v_h3_power_X5_prepare (preT f 1) (preT f 5) (f 19) (preT f 7) (f 9) (f 21) (f 22) (f 23) (f 8) (f 24) (f 25) (f 26) (f 27)) (v_h3_power_X5_protect (preT f 1) (preT f 5) (f 19) (preT f 7) (f 9) (f 21) (f 23) (fun k => f (53 + k)) (fun k => f (61 + k)) (fun k => f (69 + k)) c (r_X3_changeUntil (preT f 5) (fun k => f (33 + k)) (t + 1)) z) := by
  have h9 : rg (f 9) 0 5000 := hI.2.2.2.2.1
  have h23 : rg (f 23) 1 5000 := hI.2.2.2.2.2.2.2.2.2.2.2.1
  have h209 : f 20 = 1 ∨ f 9 = 0 := hI.2.2.2.2.2.1
  have r := run_9 (q := q) (t := t + 1) hz (pre_5r hI) (pre_pr hI) (pre_ag ha) (by rw [pre_far f (by decide)]; exact h9) (by rw [pre_far f (by decide)]; exact h23)
  have w := aw_9 (g := preT f) (q := q) hz
  have p := pr_9 (g := preT f)
  simp only [pre_fn (f := f) 53 (by decide), pre_fn (f := f) 61 (by decide), pre_fn (f := f) 69 (by decide), pre_fn (f := f) 33 (by decide), pre_far f (show 8 ≤ 19 by decide), pre_far f (show 8 ≤ 21 by decide), pre_far f (show 8 ≤ 22 by decide), pre_far f (show 8 ≤ 23 by decide), pre_far f (show 8 ≤ 8 by decide), pre_far f (show 8 ≤ 9 by decide), pre_far f (show 8 ≤ 24 by decide), pre_far f (show 8 ≤ 25 by decide), pre_far f (show 8 ≤ 26 by decide), pre_far f (show 8 ≤ 27 by decide)] at r w p
  unfold tickS v_h3_power_X5_tick
  rw [fin_far _ _ (by decide) (by omega)]
  unfold midT
  rw [pre_far f (show 8 ≤ 20 by decide)]
  by_cases h1 : f 20 = 1
  · rw [if_pos h1, if_pos h1, r]
  · rw [if_neg h1, if_neg h1]
    by_cases h2 : f 20 = 0
    · have h0 : f 9 = 0 := h209.resolve_left h1
      rw [if_pos h2, if_pos h2, w, p, h0, rs_eq ⟨by decide, by decide⟩ h23, show (0 : Int32) + f 23 = f 23 by exact Int32.zero_add _]
    · rw [if_neg h2, if_neg h2, pre_far f (by decide)]
theorem tk_8 (hI : Inv f) (hz : z ≤ 8) (ha : Agr c f z) : tickS f t z q 8 = v_h3_readyCount_X5_tick (f 20) (f 8) (v_h3_readyCount_X5_prepare (preT f 1) (preT f 5) (f 19) (preT f 7) (f 8) (f 24) (f 25) (f 26) (f 27)) (v_h3_readyCount_X5_protect (preT f 1) (preT f 5) (f 19) (preT f 7) (f 8) (fun k => f (53 + k)) (fun k => f (61 + k)) (fun k => f (69 + k)) c (r_X3_changeUntil (preT f 5) (fun k => f (33 + k)) (t + 1)) z) := by
  have r := run_8 (q := q) (t := t + 1) hz (pre_5r hI) (pre_pr hI) (pre_ag ha)
  have w := aw_8 (g := preT f) (q := q) hz
  rw [← pr_8] at w
  simp only [pre_fn (f := f) 53 (by decide), pre_fn (f := f) 61 (by decide), pre_fn (f := f) 69 (by decide), pre_fn (f := f) 33 (by decide), pre_far f (show 8 ≤ 19 by decide), pre_far f (show 8 ≤ 8 by decide), pre_far f (show 8 ≤ 24 by decide), pre_far f (show 8 ≤ 25 by decide), pre_far f (show 8 ≤ 26 by decide), pre_far f (show 8 ≤ 27 by decide)] at r w
  unfold tickS v_h3_readyCount_X5_tick
  rw [fin_far _ _ (by decide) (by omega)]
  unfold midT
  rw [pre_far f (show 8 ≤ 20 by decide)]
  by_cases h1 : f 20 = 1
  · rw [if_pos h1, if_pos h1, r]
  · rw [if_neg h1, if_neg h1]
    by_cases h2 : f 20 = 0
    · rw [if_pos h2, if_pos h2, w]
    · rw [if_neg h2, if_neg h2, pre_far f (by decide)]
theorem tk_32 (hI : Inv f) (hz : z ≤ 8) (ha : Agr c f z) : tickS f t z q 32 = v_h5_size_X5_tick (f 20) (f 32) (v_h5_size_X5_prepare (preT f 1) (preT f 5) (f 19) (preT f 7) (f 22) (f 8) (f 24) (f 25) (f 26) (f 27) (f 32)) (v_h5_size_X5_protect (preT f 1) (preT f 5) (f 19) (preT f 7) (f 32) (fun k => f (53 + k)) (fun k => f (61 + k)) (fun k => f (69 + k)) c (r_X3_changeUntil (preT f 5) (fun k => f (33 + k)) (t + 1)) z) := by
  have r := run_32 (q := q) (t := t + 1) hz (pre_5r hI) (pre_pr hI) (pre_ag ha)
  have w := aw_32 (g := preT f) (q := q) hz
  rw [← pr_32] at w
  simp only [pre_fn (f := f) 53 (by decide), pre_fn (f := f) 61 (by decide), pre_fn (f := f) 69 (by decide), pre_fn (f := f) 33 (by decide), pre_far f (show 8 ≤ 19 by decide), pre_far f (show 8 ≤ 22 by decide), pre_far f (show 8 ≤ 8 by decide), pre_far f (show 8 ≤ 24 by decide), pre_far f (show 8 ≤ 25 by decide), pre_far f (show 8 ≤ 26 by decide), pre_far f (show 8 ≤ 27 by decide), pre_far f (show 8 ≤ 32 by decide)] at r w
  unfold tickS v_h5_size_X5_tick
  rw [fin_far _ _ (by decide) (by omega)]
  unfold midT
  rw [pre_far f (show 8 ≤ 20 by decide)]
  by_cases h1 : f 20 = 1
  · rw [if_pos h1, if_pos h1, r]
  · rw [if_neg h1, if_neg h1]
    by_cases h2 : f 20 = 0
    · rw [if_pos h2, if_pos h2, w]
    · rw [if_neg h2, if_neg h2, pre_far f (by decide)]
theorem tk_t (hI : Inv f) (hz : z ≤ 8) (ha : Agr c f z) {k : Nat} (hk : k < 40) : a_h11_X5_tick (f 20) (fun k => f (85 + k)) (a_h11_X5_prepare (f 0 + 1) (preT f 1) (preT f 5) (f 19) (preT f 7) (f 22) (f 8) (f 24) (f 25) (f 26) (f 27) (fun k => f (85 + k)) q) (a_h11_X5_protect (f 0 + 1) (preT f 1) (preT f 5) (f 19) (preT f 7) (fun k => f (53 + k)) (fun k => f (61 + k)) (fun k => f (69 + k)) c (fun k => f (85 + k)) (r_X3_changeUntil (preT f 5) (fun k => f (33 + k)) (t + 1)) z q) k = tickS f t z q (85 + k) := by
  have r := run_t (q := q) (t := t + 1) hz (pre_5r hI) (pre_pr hI) (pre_ag ha) hk
  have w := aw_t (g := preT f) (q := q) hz hk
  rw [← pr_t] at w
  simp only [pre_fn (f := f) 53 (by decide), pre_fn (f := f) 61 (by decide), pre_fn (f := f) 69 (by decide), pre_fn (f := f) 33 (by decide), pre_fn (f := f) 85 (by decide), pre_0, pre_far f (show 8 ≤ 19 by decide), pre_far f (show 8 ≤ 22 by decide), pre_far f (show 8 ≤ 8 by decide), pre_far f (show 8 ≤ 24 by decide), pre_far f (show 8 ≤ 25 by decide), pre_far f (show 8 ≤ 26 by decide), pre_far f (show 8 ≤ 27 by decide), pre_far f (show 8 ≤ 32 by decide)] at r w
  unfold tickS a_h11_X5_tick
  rw [fin_far _ _ (by omega) (by omega)]
  unfold midT
  rw [pre_far f (show 8 ≤ 20 by decide)]
  by_cases h1 : f 20 = 1
  · rw [if_pos h1, if_pos h1, r]
  · rw [if_neg h1, if_neg h1]
    by_cases h2 : f 20 = 0
    · rw [if_pos h2, if_pos h2, w]
    · rw [if_neg h2, if_neg h2, pre_far f (by omega)]
theorem tk_c (hI : Inv f) (hz : z ≤ 8) (ha : Agr c f z) {k : Nat} (hk : k < 40) : a_h12_X5_tick (f 20) (fun k => f (125 + k)) (a_h12_X5_prepare (preT f 1) (preT f 5) (f 19) (preT f 7) (f 22) (f 8) (f 24) (f 25) (f 26) (f 27) (fun k => f (125 + k)) q) (a_h12_X5_protect (preT f 1) (preT f 5) (f 19) (preT f 7) (fun k => f (53 + k)) (fun k => f (61 + k)) (fun k => f (69 + k)) c (fun k => f (125 + k)) (r_X3_changeUntil (preT f 5) (fun k => f (33 + k)) (t + 1)) z q) k = tickS f t z q (125 + k) := by
  have r := run_c (q := q) (t := t + 1) hz (pre_5r hI) (pre_pr hI) (pre_ag ha) hk
  have w := aw_c (g := preT f) (q := q) hz hk
  rw [← pr_c] at w
  simp only [pre_fn (f := f) 53 (by decide), pre_fn (f := f) 61 (by decide), pre_fn (f := f) 69 (by decide), pre_fn (f := f) 33 (by decide), pre_fn (f := f) 125 (by decide), pre_far f (show 8 ≤ 19 by decide), pre_far f (show 8 ≤ 22 by decide), pre_far f (show 8 ≤ 8 by decide), pre_far f (show 8 ≤ 24 by decide), pre_far f (show 8 ≤ 25 by decide), pre_far f (show 8 ≤ 26 by decide), pre_far f (show 8 ≤ 27 by decide), pre_far f (show 8 ≤ 32 by decide)] at r w
  unfold tickS a_h12_X5_tick
  rw [fin_far _ _ (by omega) (by omega)]
  unfold midT
  rw [pre_far f (show 8 ≤ 20 by decide)]
  by_cases h1 : f 20 = 1
  · rw [if_pos h1, if_pos h1, r]
  · rw [if_neg h1, if_neg h1]
    by_cases h2 : f 20 = 0
    · rw [if_pos h2, if_pos h2, w]
    · rw [if_neg h2, if_neg h2, pre_far f (by omega)]
theorem tk_p {k : Nat} (hz : z ≤ 8) (hk : k < 20) : a_h1_X3_changeUntil (preT f 5) (fun k => f (33 + k)) (t + 1) k = tickS f t z q (33 + k) := by
  unfold tickS a_h1_X3_changeUntil finT
  rw [pk_un (show 33 + k ≠ 31 by omega)]
  by_cases h : k = (t + 1) % 20
  · subst h
    rw [pk_us, pk_us, mid_far hz (by decide) (by decide) (by decide) (by decide) (by decide)]
  · rw [pk_un h, pk_un (by omega), mid_far hz (by omega) (by omega) (by omega) (by omega) (by omega), pre_far f (by omega)]
/-- the counts agree behind the tick too -/
theorem tk_n (hI : Inv f) (hz : z ≤ 8) (ha : Agr c f z) : Agr (nextC f c t z) (tickS f t z q) z := by
  have r := run_n (q := q) (t := t + 1) hz (pre_5r hI) (pre_pr hI) (pre_ag ha)
  have w := aw_n (g := preT f) (q := q) hz (pre_ag ha)
  simp only [pre_fn (f := f) 53 (by decide), pre_fn (f := f) 61 (by decide), pre_fn (f := f) 69 (by decide), pre_fn (f := f) 33 (by decide), pre_far f (show 8 ≤ 19 by decide), pre_far f (show 8 ≤ 22 by decide)] at r w
  intro i hi
  unfold tickS nextC a_h10_X5_tick
  rw [fin_far _ _ (by omega) (by omega)]
  unfold midT
  rw [pre_far f (show 8 ≤ 20 by decide)]
  by_cases h1 : f 20 = 1
  · rw [if_pos h1, if_pos h1]; exact r i hi
  · rw [if_neg h1, if_neg h1]
    by_cases h2 : f 20 = 0
    · rw [if_pos h2, if_pos h2]; exact w i hi
    · rw [if_neg h2, if_neg h2]; exact pre_ag ha i hi
theorem tk_31 : tickS f t z q 31 = f 31 + (if tickS f t z q 20 = 1 then 1 else 0 : Int32) ∨ 8 < z := by
  rcases Nat.lt_or_ge 8 z with h | hz
  · exact Or.inr h
  · left
    have e : tickS f t z q 20 = midT (preT f) t z q 20 := fin_far _ _ (by decide) (by omega)
    rw [e]
    unfold tickS finT
    rw [pk_us, mid_far hz (by decide) (by decide) (by decide) (by decide) (by decide), pre_far f (by decide)]
end
end TICK2
