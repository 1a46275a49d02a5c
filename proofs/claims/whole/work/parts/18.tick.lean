section TICK3
theorem at_obj {D : va_G} {cl : List vw_C} {a ci : Nat} {fs fs' : List Value} {H : Heap} (h : va_at D cl (a, .inr (ci, fs)) H) (e : fs = fs') : va_at D cl (a, .inr (ci, fs')) H := e ▸ h
theorem at_arr {D : va_G} {cl : List vw_C} {a n : Nat} {cA : ClassId} {f g : Nat → Int32} {H : Heap} (h : va_at D cl (a, .inl (cA, n, .inl f)) H) (e : ∀ k, k < n → f k = g k) : va_at D cl (a, .inl (cA, n, .inl g)) H := by
  show H[a]? = some (vp_cell cA (n, .inl g))
  rw [← cell_congr e]
  exact h
section
variable {f c : Nat → Int32} {t z q : Nat}
theorem tk_id (hz : z ≤ 8) {k : Nat} (h : 10 ≤ k ∧ k < 31 ∧ k ≠ 20 ∨ 53 ≤ k ∧ k < 77) : tickS f t z q k = f k := by
  rw [tk_far f t z q hz (by omega) (by omega) (by omega) (by omega) (by omega) (by omega), pre_far f (by omega)]
theorem tk_pre (hz : z ≤ 8) {k : Nat} (h : k < 8) : tickS f t z q k = preT f k :=
  tk_far f t z q hz (by omega) (by omega) (by omega) (by omega) (by omega) (by omega)
theorem tk_en (hI : Inv f) (hz : z ≤ 8) (ha : Agr c f z) (E : Int64) : v_h3_energy_X5_tick (f 20) (v_h0_energy_X0_account (f 9) E) (v_h0_energy_X0_account (v_h3_power_X5_prepare (preT f 1) (preT f 5) (f 19) (preT f 7) (f 9) (f 21) (f 22) (f 23) (f 8) (f 24) (f 25) (f 26) (f 27)) E) (v_h0_energy_X0_account (v_h3_power_X5_protect (preT f 1) (preT f 5) (f 19) (preT f 7) (f 9) (f 21) (f 23) (fun k => f (53 + k)) (fun k => f (61 + k)) (fun k => f (69 + k)) c (r_X3_changeUntil (preT f 5) (fun k => f (33 + k)) (t + 1)) z) E) = E + (tickS f t z q 9).toInt64 := by
  rw [tk_9 hI hz ha]
  unfold v_h3_energy_X5_tick v_h0_energy_X0_account v_h3_power_X5_tick
  by_cases h1 : f 20 = 1
  · rw [if_pos h1, if_pos h1]
  · rw [if_neg h1, if_neg h1]
    by_cases h2 : f 20 = 0
    · rw [if_pos h2, if_pos h2]
    · rw [if_neg h2, if_neg h2]
theorem tk_rt (hI : Inv f) (hz : z ≤ 8) (ha : Agr c f z) : v_h3_runningTicks_X5_tick (f 20) (v_h0_runningTicks_X0_account (f 20) (f 31)) (v_h0_runningTicks_X0_account (v_h3_mode_X5_prepare (preT f 1) (preT f 5) (f 19) (preT f 7) (f 20) (f 22) (f 8) (f 24) (f 25) (f 26) (f 27)) (f 31)) (v_h0_runningTicks_X0_account (v_h3_mode_X5_protect (preT f 1) (preT f 5) (f 19) (preT f 7) (f 20) (fun k => f (53 + k)) (fun k => f (61 + k)) (fun k => f (69 + k)) c (r_X3_changeUntil (preT f 5) (fun k => f (33 + k)) (t + 1)) z) (f 31)) = tickS f t z q 31 := by
  have e := (tk_31 (f := f) (t := t) (z := z) (q := q)).resolve_right (by omega)
  have key : ∀ m : Int32, v_h0_runningTicks_X0_account m (f 31) = f 31 + (if m = 1 then 1 else 0 : Int32) := by
    intro m
    unfold v_h0_runningTicks_X0_account
    by_cases h : m = 1
    · rw [if_pos h, if_pos h]
    · rw [if_neg h, if_neg h, Int32.add_zero]
  rw [e, tk_20 hI hz ha, key, key, key]
  unfold v_h3_runningTicks_X5_tick v_h3_mode_X5_tick
  by_cases h1 : f 20 = 1
  · simp only [if_pos h1]
  · by_cases h2 : f 20 = 0
    · simp only [if_neg h1, if_pos h2]
    · simp only [if_neg h1, if_neg h2]
/-- the class's tick -/
theorem mT5 (l : Launch) (D : va_G) (cI cJ cZ cO : ClassId) (a : Nat → Nat) (f c : Nat → Int32) (E : Int64) (t z q : Nat) (hI : Inv f) (ha : Agr c f z) (ht : f 0 = nI t) (ht2 : t < 2147483647) (hz : f 30 = nI z) (hz8 : z ≤ 8) (hq : f 32 = nI q) (hq2 : q < 2147483648) :
    MV l yX5_tick wsX5_tick ({ frames := 4, cells := 0, slots := 0, locals := 88 } : Room) D (tysK cI cJ cZ cO) [.ref (a 0)] (simW cI a f c E) (fun (_ : Unit) => simW cI a (tickS f t z q) (nextC f c t z) (E + (tickS f t z q 9).toInt64)) := by
  have pn := pr_n (g := preT f) (c := c)
  simp only [pre_far f (show 8 ≤ 19 by decide), pre_far f (show 8 ≤ 22 by decide), pre_far f (show 8 ≤ 8 by decide), pre_far f (show 8 ≤ 24 by decide), pre_far f (show 8 ≤ 25 by decide), pre_far f (show 8 ≤ 26 by decide), pre_far f (show 8 ≤ 27 by decide)] at pn
  have M := mX5_tick l D cI cJ cZ cO (a 0) (a 1) (a 2) (a 3) (a 4) (a 5) (a 6) (a 7) (a 8) (a 9) (a 10) (a 11) (a 12) (f 0) (f 1) (f 2) (f 3) (f 10) (f 11) (f 12) (f 13) (f 14) (f 15) (f 4) (f 5) (f 6) (f 16) (f 17) (f 18) (f 19) (f 7) (f 20) (f 9) (f 21) (f 22) (f 23) (f 8) (f 24) (f 25) (f 26) (f 27) (f 28) (f 29) E (f 31) (f 30) (f 32) (fun k => f (33 + k)) (fun k => f (53 + k)) (fun k => f (61 + k)) (fun k => f (69 + k)) c (fun k => f (85 + k)) (fun k => f (125 + k)) t z q (preT f 1) (preT f 2) (preT f 4) (preT f 5) (preT f 6) (preT f 7) _ _ _ _ _ _ _ _ (if rdy (preT f) < f 22 then c else fillN c 0 8) _ _ _ _ _ _ _ _ _ _ _ _ _ ht ht2 hz hz8 hq hq2 (pre_1 hI) (pre_2 hI) (pre_4 hI) (pre_5 hI) (pre_6 hI) (pre_7 hI) rfl rfl rfl rfl rfl rfl rfl rfl pn.symm rfl rfl rfl rfl rfl rfl rfl rfl rfl rfl rfl rfl rfl
  refine M.mono id (fun _ H hP => ?_) (fun _ A hD => D_addr (by rfl) hD)
  intro k q1 hk
  match k, hk with
  | 0, hk => cases hk; exact at_obj (hP 0 _ rfl) (by rw [tk_pre hz8 (by decide), pre_0]; rfl)
  | 1, hk => cases hk; exact at_obj (hP 1 _ rfl) (by rw [tk_pre hz8 (k := 1) (by decide), tk_pre hz8 (k := 2) (by decide), tk_pre hz8 (k := 3) (by decide), pre_3, tk_id hz8 (k := 10) (by omega), tk_id hz8 (k := 11) (by omega), tk_id hz8 (k := 12) (by omega), tk_id hz8 (k := 13) (by omega), tk_id hz8 (k := 14) (by omega), tk_id hz8 (k := 15) (by omega)]; rfl)
  | 2, hk => cases hk; exact at_obj (hP 2 _ rfl) (by rw [tk_pre hz8 (k := 4) (by decide), tk_pre hz8 (k := 5) (by decide), tk_pre hz8 (k := 6) (by decide), tk_pre hz8 (k := 7) (by decide), tk_id hz8 (k := 16) (by omega), tk_id hz8 (k := 17) (by omega), tk_id hz8 (k := 18) (by omega), tk_id hz8 (k := 19) (by omega)])
  | 3, hk => cases hk; exact at_obj (hP 3 _ rfl) (by rw [tk_en (q := q) hI hz8 ha, tk_rt (q := q) hI hz8 ha, ← tk_20 (q := q) hI hz8 ha, ← tk_9 (q := q) hI hz8 ha, ← tk_8 (q := q) hI hz8 ha, tk_id hz8 (k := 21) (by omega), tk_id hz8 (k := 22) (by omega), tk_id hz8 (k := 23) (by omega), tk_id hz8 (k := 24) (by omega), tk_id hz8 (k := 25) (by omega), tk_id hz8 (k := 26) (by omega), tk_id hz8 (k := 27) (by omega), tk_id hz8 (k := 28) (by omega), tk_id hz8 (k := 29) (by omega)])
  | 4, hk => cases hk; exact at_obj (hP 4 _ rfl) (by rw [tk_id hz8 (k := 30) (by omega)])
  | 5, hk => cases hk; exact at_obj (hP 5 _ rfl) (by rw [← tk_32 (q := q) hI hz8 ha])
  | 6, hk => cases hk; exact at_arr (hP 6 _ rfl) (fun k h => tk_p hz8 h)
  | 7, hk => cases hk; exact at_arr (hP 7 _ rfl) (fun k h => (tk_id hz8 (by omega)).symm)
  | 8, hk => cases hk; exact at_arr (hP 8 _ rfl) (fun k h => (tk_id hz8 (by omega)).symm)
  | 9, hk => cases hk; exact at_arr (hP 9 _ rfl) (fun k h => (tk_id hz8 (by omega)).symm)
  | 10, hk => cases hk; exact hP 10 _ rfl
  | 11, hk => cases hk; exact at_arr (hP 11 _ rfl) (fun k h => tk_t hI hz8 ha h)
  | 12, hk => cases hk; exact at_arr (hP 12 _ rfl) (fun k h => tk_c hI hz8 ha h)
  | k + 13, hk => simp [simW] at hk
theorem lim_0 {x b : Int32} (h : 0 ≤ b.toInt) : rg (r_X7_limited x 0 b) 0 b.toInt := by
  have e0 : ((0 : Int32)).toInt = 0 := rfl
  unfold r_X7_limited
  by_cases h1 : 0 ≤ x
  · rw [if_pos h1]
    rw [le_ti, e0] at h1
    by_cases h2 : x ≤ b
    · rw [if_pos h2]; rw [le_ti] at h2; exact ⟨h1, h2⟩
    · rw [if_neg h2]; exact ⟨h, Int.le_refl _⟩
  · rw [if_neg h1]; exact ⟨by rw [e0]; exact Int.le_refl _, by rw [e0]; exact h⟩
/-- what is known stays known -/
theorem tk_inv (hI : Inv f) (hz : z ≤ 8) : Inv (tickS f t z q) := by
  have hI0 := hI
  obtain ⟨i2, i3, i4, i5, i9, i209, i10, i12, i13, i19, i21, i23, ip⟩ := hI
  have z0 : rg (0 : Int32) 0 5000 := ⟨by decide, by decide⟩
  have L : ∀ x, rg (r_X7_limited x 0 (f 21)) 0 5000 := fun x => by
    have := lim_0 (x := x) (b := f 21) (by have := i21.1; omega)
    exact ⟨this.1, by have a := this.2; have b := i21.2; omega⟩
  have h9 : tickS f t z q 9 = midT (preT f) t z q 9 := fin_far _ _ (by decide) (by omega)
  have h20 : tickS f t z q 20 = midT (preT f) t z q 20 := fin_far _ _ (by decide) (by omega)
  have key : rg (midT (preT f) t z q 9) 0 5000 ∧ (midT (preT f) t z q 20 = 1 ∨ midT (preT f) t z q 9 = 0) := by
    unfold midT
    rw [pre_far f (show 8 ≤ 20 by decide)]
    by_cases h1 : f 20 = 1
    · rw [if_pos h1]
      unfold a_h1_X7_run
      by_cases c1 : r_X7_hasLock (preT f) = 0
      · rw [if_pos c1, tr_9]; exact ⟨z0, Or.inr rfl⟩
      · rw [if_neg c1]
        by_cases c2 : fdR (preT f) (t + 1) z z = -1
        · rw [if_pos c2, pk_us, rnC_far _ _ _ _ 21 hz (by omega), pre_far f (show 8 ≤ 21 by decide), pk_un (show 20 ≠ 9 by decide), rnC_far _ _ _ _ 20 hz (by omega), pre_far f (show 8 ≤ 20 by decide)]
          exact ⟨L _, Or.inl h1⟩
        · rw [if_neg c2, tr_9]; exact ⟨z0, Or.inr rfl⟩
    · rw [if_neg h1]
      have h0 := i209.resolve_left h1
      by_cases h2 : f 20 = 0
      · rw [if_pos h2, aw_9 hz, aw_20 hz]
        by_cases c1 : rdy (preT f) < preT f 22
        · rw [if_pos c1, if_pos c1, pre_far f (show 8 ≤ 9 by decide)]
          exact ⟨i9, Or.inr h0⟩
        · rw [if_neg c1, if_neg c1, pre_far f (show 8 ≤ 21 by decide)]
          exact ⟨L _, Or.inl rfl⟩
      · rw [if_neg h2, pre_far f (show 8 ≤ 9 by decide)]
        exact ⟨i9, Or.inr h0⟩
  refine ⟨?_, ?_, ?_, ?_, ?_, ?_, ?_, ?_, ?_, ?_, ?_, ?_, ?_⟩
  · rw [tk_pre hz (by decide)]; exact pre_2r hI0
  · rw [tk_pre hz (by decide)]; exact pre_3r
  · rw [tk_pre hz (by decide)]; exact pre_4r
  · rw [tk_pre hz (by decide)]; exact pre_5r hI0
  · rw [h9]; exact key.1
  · rw [h9, h20]; exact key.2
  · rw [tk_id hz (by omega)]; exact i10
  · rw [tk_id hz (by omega)]; exact i12
  · rw [tk_id hz (by omega)]; exact i13
  · rw [tk_id hz (by omega)]; exact i19
  · rw [tk_id hz (by omega)]; exact i21
  · rw [tk_id hz (by omega)]; exact i23
  · intro k hk
    rw [← tk_p hz hk]
    unfold a_h1_X3_changeUntil
    by_cases h : k = (t + 1) % 20
    · subst h; rw [pk_us]; exact pre_5r hI0
    · rw [pk_un h]; exact ip k hk
theorem tk_0 (hz : z ≤ 8) (ht : f 0 = nI t) : tickS f t z q 0 = nI (t + 1) := by
  rw [tk_pre hz (by decide), pre_0, ht]; exact nI_1 t
theorem tk_30 (hz : z ≤ 8) : tickS f t z q 30 = f 30 := tk_id hz (by omega)
theorem tk_q (hz : z ≤ 8) (hq : f 32 = nI q) : tickS f t z q 32 = nI q ∨ tickS f t z q 32 = nI (q + 1) := by
  have h32 : tickS f t z q 32 = midT (preT f) t z q 32 := fin_far _ _ (by decide) (by omega)
  have e : preT f 32 = nI q := by rw [pre_far f (by decide)]; exact hq
  rw [h32]
  unfold midT
  by_cases h1 : preT f 20 = 1
  · rw [if_pos h1]
    unfold a_h1_X7_run
    by_cases c1 : r_X7_hasLock (preT f) = 0
    · rw [if_pos c1, tr_32, e]; exact Or.inr (nI_1 q)
    · rw [if_neg c1]
      by_cases c2 : fdR (preT f) (t + 1) z z = -1
      · rw [if_pos c2, pk_un (by decide), rnC_far _ _ _ _ _ hz (by omega)]; exact Or.inl e
      · rw [if_neg c2, tr_32, rnC_far _ _ _ _ _ hz (by omega), e]; exact Or.inr (nI_1 q)
  · rw [if_neg h1]
    by_cases h2 : preT f 20 = 0
    · rw [if_pos h2, aw_32 hz]
      by_cases c1 : rdy (preT f) < preT f 22
      · rw [if_pos c1]; exact Or.inl e
      · rw [if_neg c1, e]; exact Or.inr (nI_1 q)
    · rw [if_neg h2]; exact Or.inl e
end
end TICK3
