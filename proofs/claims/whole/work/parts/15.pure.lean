section PURE4
theorem First.congr {P P' : Nat → Prop} {z : Nat} {x : Int32} (h : ∀ r, r < z → (P r ↔ P' r)) (hx : First P z x) : First P' z x := by
  rcases hx with ⟨h1, h2⟩ | ⟨r, h1, h2, h3, h4⟩
  · exact Or.inl ⟨h1, fun r hr hp => h2 r hr ((h r hr).mpr hp)⟩
  · exact Or.inr ⟨r, h1, (h r h1).mp h2, fun j hj hp => h3 j hj ((h j (by omega)).mpr hp), h4⟩
theorem tu_far (g : Nat → Int32) {k : Nat} (h1 : k ≠ 8) (h2 : k ≠ 9) (h3 : k ≠ 20) : upd (upd (upd g 20 0) 9 0) 8 0 k = g k := by
  rw [pk_un h1, pk_un h2, pk_un h3]
theorem tr_far (g : Nat → Int32) (p : Int32) (q : Nat) {k : Nat} (h : k < 85) (h1 : k ≠ 8) (h2 : k ≠ 9) (h3 : k ≠ 20) (h4 : k ≠ 32) : a_h1_X7_trip g p q k = g k := by
  unfold a_h1_X7_trip
  rw [nt_far _ _ _ h h4, tu_far g h1 h2 h3]
theorem tr_hi (g : Nat → Int32) (p : Int32) (q : Nat) {k : Nat} (h : 165 ≤ k) : a_h1_X7_trip g p q k = g k := by
  unfold a_h1_X7_trip
  rw [nt_hi _ _ _ h, tu_far g (by omega) (by omega) (by omega)]
theorem tr_8 (g : Nat → Int32) (p : Int32) (q : Nat) : a_h1_X7_trip g p q 8 = 0 := by
  unfold a_h1_X7_trip
  rw [nt_far _ _ _ (by decide) (by decide), pk_us]
theorem tr_9 (g : Nat → Int32) (p : Int32) (q : Nat) : a_h1_X7_trip g p q 9 = 0 := by
  unfold a_h1_X7_trip
  rw [nt_far _ _ _ (by decide) (by decide), pk_un (by decide), pk_us]
theorem tr_20 (g : Nat → Int32) (p : Int32) (q : Nat) : a_h1_X7_trip g p q 20 = 0 := by
  unfold a_h1_X7_trip
  rw [nt_far _ _ _ (by decide) (by decide), pk_un (by decide), pk_un (by decide), pk_us]
theorem tr_32 (g : Nat → Int32) (p : Int32) (q : Nat) : a_h1_X7_trip g p q 32 = g 32 + 1 := by
  unfold a_h1_X7_trip
  rw [nt_32, tu_far g (by decide) (by decide) (by decide)]
theorem tr_t (g : Nat → Int32) (p : Int32) (q : Nat) {k : Nat} (h : k < 40) : a_h1_X7_trip g p q (85 + k) = upd (fun k => g (85 + k)) (q % 40) (g 0) k := by
  unfold a_h1_X7_trip
  rw [nt_t _ _ _ h, tu_far g (by decide) (by decide) (by decide)]
  have e : (fun k => upd (upd (upd g 20 0) 9 0) 8 0 (85 + k)) = fun k => g (85 + k) := funext fun k => tu_far g (by omega) (by omega) (by omega)
  rw [e]
theorem tr_c (g : Nat → Int32) (p : Int32) (q : Nat) {k : Nat} (h : k < 40) : a_h1_X7_trip g p q (125 + k) = upd (fun k => g (125 + k)) (q % 40) p k := by
  unfold a_h1_X7_trip
  rw [nt_c _ _ _ h]
  have e : (fun k => upd (upd (upd g 20 0) 9 0) 8 0 (125 + k)) = fun k => g (125 + k) := funext fun k => tu_far g (by omega) (by omega) (by omega)
  rw [e]
/-- the class's counts are the reference's, as far as there are rules -/
def Agr (c g : Nat → Int32) (z : Nat) : Prop := ∀ i, i < z → c i = g (77 + i)
theorem cv_eq {g c : Nat → Int32} {t z : Nat} (hz : z ≤ 8) (h5 : rg (g 5) 40000 70000) (hp : ∀ k, k < 20 → rg (g (33 + k)) 40000 70000) (ha : Agr c g z) : r_X4_countViolations (fun k => g (53 + k)) (fun k => g (61 + k)) (fun k => g (69 + k)) c (g 1) (g 5) (r_X3_changeUntil (g 5) (fun k => g (33 + k)) t) z = fdR g t z z := by
  refine First.one ?_ (fdR_first g t z hz)
  refine First.congr (fun r hr => ?_) (cvD_first _ _ _ _ _ _ _ z hz)
  show ¬ (if r_X4_isViolated (g (53 + r)) (g (61 + r)) (g 1) (g 5) _ = 0 then (0 : Int32) else (c r + 1)) < g (69 + r) ↔ _
  rw [vi_eq t r h5 hp, ha r hr]
  exact Iff.rfl
theorem cn_eq {g c : Nat → Int32} {t z : Nat} (hz : z ≤ 8) (h5 : rg (g 5) 40000 70000) (hp : ∀ k, k < 20 → rg (g (33 + k)) 40000 70000) (ha : Agr c g z) {i : Nat} (hi : i < z) : a_h4_X4_countViolations (fun k => g (53 + k)) (fun k => g (61 + k)) c (g 1) (g 5) (r_X3_changeUntil (g 5) (fun k => g (33 + k)) t) z i = rnC g t z z (77 + i) := by
  unfold a_h4_X4_countViolations
  rw [cvC_at, if_pos hi, rnC_at g t z hz z (Nat.le_refl z) i (by omega), if_pos (show z - z ≤ i ∧ i < z by omega), vi_eq t i h5 hp, ha i hi]
  rfl
theorem rs_eq {a b d : Int32} (ha : rg a 0 5000) (hb : rg b 1 5000) : v_h0_power_X0_raisePower a d b = r_X7_limited (a + b) 0 d := by
  have e0 : ((0 : Int32)).toInt = 0 := rfl
  obtain ⟨a1, a2⟩ := ha
  obtain ⟨b1, b2⟩ := hb
  have hs : (a + b).toInt = a.toInt + b.toInt := ti_add (by omega) (by omega)
  unfold v_h0_power_X0_raisePower r_X7_limited
  rw [if_pos (show 0 ≤ a + b by rw [le_ti, hs, e0]; omega)]
  by_cases h : a + b ≤ d
  · rw [if_pos h, if_neg (show ¬ d < a + b by rw [le_ti] at h; rw [lt_ti]; omega)]
  · rw [if_neg h, if_pos (show d < a + b by rw [le_ti] at h; rw [lt_ti]; omega)]
section RUN
variable {g c : Nat → Int32} {t z q : Nat}
theorem run_20 (hz : z ≤ 8) (h5 : rg (g 5) 40000 70000) (hp : ∀ k, k < 20 → rg (g (33 + k)) 40000 70000) (ha : Agr c g z) : a_h1_X7_run g t z q 20 = v_h3_mode_X5_protect (g 1) (g 5) (g 19) (g 7) (g 20) (fun k => g (53 + k)) (fun k => g (61 + k)) (fun k => g (69 + k)) c (r_X3_changeUntil (g 5) (fun k => g (33 + k)) t) z := by
  unfold a_h1_X7_run v_h3_mode_X5_protect
  rw [cv_eq hz h5 hp ha]
  by_cases h1 : r_X7_hasLock g = 0
  · rw [if_pos h1, if_pos (show r_X3_holdsLock (g 19) (g 7) = 0 from h1), tr_20]
  · rw [if_neg h1, if_neg (show ¬ r_X3_holdsLock (g 19) (g 7) = 0 from h1)]
    by_cases h2 : fdR g t z z = -1
    · rw [if_pos h2, if_pos h2, pk_un (by decide), rnC_far _ _ _ _ _ hz (by omega)]
    · rw [if_neg h2, if_neg h2, tr_20]
theorem run_9 (hz : z ≤ 8) (h5 : rg (g 5) 40000 70000) (hp : ∀ k, k < 20 → rg (g (33 + k)) 40000 70000) (ha : Agr c g z) (h9 : rg (g 9) 0 5000) (h23 : rg (g 23) 1 5000) : a_h1_X7_run g t z q 9 = v_h3_power_X5_protect (g 1) (g 5) (g 19) (g 7) (g 9) (g 21) (g 23) (fun k => g (53 + k)) (fun k => g (61 + k)) (fun k => g (69 + k)) c (r_X3_changeUntil (g 5) (fun k => g (33 + k)) t) z := by
  unfold a_h1_X7_run v_h3_power_X5_protect
  rw [cv_eq hz h5 hp ha]
  by_cases h1 : r_X7_hasLock g = 0
  · rw [if_pos h1, if_pos (show r_X3_holdsLock (g 19) (g 7) = 0 from h1), tr_9]
  · rw [if_neg h1, if_neg (show ¬ r_X3_holdsLock (g 19) (g 7) = 0 from h1)]
    by_cases h2 : fdR g t z z = -1
    · rw [if_pos h2, if_pos h2, pk_us, rnC_far _ _ _ _ 9 hz (by omega), rnC_far _ _ _ _ 23 hz (by omega), rnC_far _ _ _ _ 21 hz (by omega), rs_eq h9 h23]
    · rw [if_neg h2, if_neg h2, tr_9]
theorem run_8 (hz : z ≤ 8) (h5 : rg (g 5) 40000 70000) (hp : ∀ k, k < 20 → rg (g (33 + k)) 40000 70000) (ha : Agr c g z) : a_h1_X7_run g t z q 8 = v_h3_readyCount_X5_protect (g 1) (g 5) (g 19) (g 7) (g 8) (fun k => g (53 + k)) (fun k => g (61 + k)) (fun k => g (69 + k)) c (r_X3_changeUntil (g 5) (fun k => g (33 + k)) t) z := by
  unfold a_h1_X7_run v_h3_readyCount_X5_protect
  rw [cv_eq hz h5 hp ha]
  by_cases h1 : r_X7_hasLock g = 0
  · rw [if_pos h1, if_pos (show r_X3_holdsLock (g 19) (g 7) = 0 from h1), tr_8]
  · rw [if_neg h1, if_neg (show ¬ r_X3_holdsLock (g 19) (g 7) = 0 from h1)]
    by_cases h2 : fdR g t z z = -1
    · rw [if_pos h2, if_pos h2, pk_un (by decide), rnC_far _ _ _ _ _ hz (by omega)]
    · rw [if_neg h2, if_neg h2, tr_8]
theorem run_32 (hz : z ≤ 8) (h5 : rg (g 5) 40000 70000) (hp : ∀ k, k < 20 → rg (g (33 + k)) 40000 70000) (ha : Agr c g z) : a_h1_X7_run g t z q 32 = v_h5_size_X5_protect (g 1) (g 5) (g 19) (g 7) (g 32) (fun k => g (53 + k)) (fun k => g (61 + k)) (fun k => g (69 + k)) c (r_X3_changeUntil (g 5) (fun k => g (33 + k)) t) z := by
  unfold a_h1_X7_run v_h5_size_X5_protect
  rw [cv_eq hz h5 hp ha]
  by_cases h1 : r_X7_hasLock g = 0
  · rw [if_pos h1, if_pos (show r_X3_holdsLock (g 19) (g 7) = 0 from h1), tr_32]
    rfl
  · rw [if_neg h1, if_neg (show ¬ r_X3_holdsLock (g 19) (g 7) = 0 from h1)]
    by_cases h2 : fdR g t z z = -1
    · rw [if_pos h2, if_pos h2, pk_un (by decide), rnC_far _ _ _ _ _ hz (by omega)]
    · rw [if_neg h2, if_neg h2, tr_32, rnC_far _ _ _ _ _ hz (by omega)]
      rfl
theorem run_t (hz : z ≤ 8) (h5 : rg (g 5) 40000 70000) (hp : ∀ k, k < 20 → rg (g (33 + k)) 40000 70000) (ha : Agr c g z) {k : Nat} (hk : k < 40) : a_h1_X7_run g t z q (85 + k) = a_h11_X5_protect (g 0) (g 1) (g 5) (g 19) (g 7) (fun k => g (53 + k)) (fun k => g (61 + k)) (fun k => g (69 + k)) c (fun k => g (85 + k)) (r_X3_changeUntil (g 5) (fun k => g (33 + k)) t) z q k := by
  unfold a_h1_X7_run a_h11_X5_protect
  rw [cv_eq hz h5 hp ha]
  by_cases h1 : r_X7_hasLock g = 0
  · rw [if_pos h1, if_pos (show r_X3_holdsLock (g 19) (g 7) = 0 from h1), tr_t _ _ _ hk]
    rfl
  · rw [if_neg h1, if_neg (show ¬ r_X3_holdsLock (g 19) (g 7) = 0 from h1)]
    by_cases h2 : fdR g t z z = -1
    · rw [if_pos h2, if_pos h2, pk_un (by omega), rnC_far _ _ _ _ _ hz (by omega)]
    · have e : (fun k => rnC g t z z (85 + k)) = fun k => g (85 + k) := funext fun k => rnC_far _ _ _ _ _ hz (by omega)
      rw [if_neg h2, if_neg h2, tr_t _ _ _ hk, rnC_far _ _ _ _ 0 hz (by omega), e]
      rfl
theorem run_c (hz : z ≤ 8) (h5 : rg (g 5) 40000 70000) (hp : ∀ k, k < 20 → rg (g (33 + k)) 40000 70000) (ha : Agr c g z) {k : Nat} (hk : k < 40) : a_h1_X7_run g t z q (125 + k) = a_h12_X5_protect (g 1) (g 5) (g 19) (g 7) (fun k => g (53 + k)) (fun k => g (61 + k)) (fun k => g (69 + k)) c (fun k => g (125 + k)) (r_X3_changeUntil (g 5) (fun k => g (33 + k)) t) z q k := by
  unfold a_h1_X7_run a_h12_X5_protect
  rw [cv_eq hz h5 hp ha]
  by_cases h1 : r_X7_hasLock g = 0
  · rw [if_pos h1, if_pos (show r_X3_holdsLock (g 19) (g 7) = 0 from h1), tr_c _ _ _ hk]
    rfl
  · rw [if_neg h1, if_neg (show ¬ r_X3_holdsLock (g 19) (g 7) = 0 from h1)]
    by_cases h2 : fdR g t z z = -1
    · rw [if_pos h2, if_pos h2, pk_un (by omega), rnC_far _ _ _ _ _ hz (by omega)]
    · have e : (fun k => rnC g t z z (125 + k)) = fun k => g (125 + k) := funext fun k => rnC_far _ _ _ _ _ hz (by omega)
      rw [if_neg h2, if_neg h2, tr_c _ _ _ hk, e]
      rfl
theorem run_n (hz : z ≤ 8) (h5 : rg (g 5) 40000 70000) (hp : ∀ k, k < 20 → rg (g (33 + k)) 40000 70000) (ha : Agr c g z) : Agr (a_h10_X5_protect (g 1) (g 5) (g 19) (g 7) (fun k => g (53 + k)) (fun k => g (61 + k)) c (r_X3_changeUntil (g 5) (fun k => g (33 + k)) t) z) (a_h1_X7_run g t z q) z := by
  intro i hi
  unfold a_h1_X7_run a_h10_X5_protect
  by_cases h1 : r_X7_hasLock g = 0
  · rw [if_pos h1, if_pos (show r_X3_holdsLock (g 19) (g 7) = 0 from h1), tr_far _ _ _ (by omega) (by omega) (by omega) (by omega) (by omega), ha i hi]
  · rw [if_neg h1, if_neg (show ¬ r_X3_holdsLock (g 19) (g 7) = 0 from h1), cn_eq hz h5 hp ha hi]
    by_cases h2 : fdR g t z z = -1
    · rw [if_pos h2, pk_un (by omega)]
    · rw [if_neg h2, tr_far _ _ _ (by omega) (by omega) (by omega) (by omega) (by omega)]
theorem run_far (hz : z ≤ 8) {k : Nat} (hk : k < 77) (h1 : k ≠ 8) (h2 : k ≠ 9) (h3 : k ≠ 20) (h4 : k ≠ 32) : a_h1_X7_run g t z q k = g k := by
  unfold a_h1_X7_run
  by_cases c1 : r_X7_hasLock g = 0
  · rw [if_pos c1, tr_far _ _ _ (by omega) h1 h2 h3 h4]
  · rw [if_neg c1]
    by_cases c2 : fdR g t z z = -1
    · rw [if_pos c2, pk_un h2, rnC_far _ _ _ _ _ hz (by omega)]
    · rw [if_neg c2, tr_far _ _ _ (by omega) h1 h2 h3 h4, rnC_far _ _ _ _ _ hz (by omega)]
/-- the ready count of a waiting inverter, behind a tick -/
def rdy (g : Nat → Int32) : Int32 := if r_X3_holdsLock (g 19) (g 7) = 0 then 0 else (if (if r_X0_admits (g 24) (g 25) (g 26) (g 27) (g 1) (g 5) = 0 then 0 else 1 : Int32) = 0 then 0 else (g 8 + 1) : Int32)
theorem rdy_eq (g : Nat → Int32) : (if (if r_X7_in (g 1) (g 24) (g 25) = 0 then 0 else (if r_X7_in (g 5) (g 26) (g 27) = 0 then 0 else 1 : Int32) : Int32) = 0 then 0 else (if r_X7_hasLock g = 0 then 0 else (g 8 + 1) : Int32) : Int32) = rdy g := by
  unfold rdy r_X0_admits
  rw [show r_X3_holdsLock (g 19) (g 7) = r_X7_hasLock g from rfl]
  by_cases h1 : r_X7_in (g 1) (g 24) (g 25) = 0
  · rw [if_pos h1, if_neg (show ¬ r_X6_outside (g 1) (g 24) (g 25) = 0 from fun q => (out_in.mp q) h1)]
    by_cases h3 : r_X7_hasLock g = 0
    · simp [h3]
    · simp [h3]
  · rw [if_neg h1, if_pos (out_in.mpr h1)]
    by_cases h2 : r_X7_in (g 5) (g 26) (g 27) = 0
    · rw [if_pos h2, if_neg (show ¬ r_X6_outside (g 5) (g 26) (g 27) = 0 from fun q => (out_in.mp q) h2)]
      by_cases h3 : r_X7_hasLock g = 0
      · simp [h3]
      · simp [h3]
    · rw [if_neg h2, if_pos (out_in.mpr h2)]
      by_cases h3 : r_X7_hasLock g = 0
      · simp [h3]
      · simp [h3]
theorem aw_eq (g : Nat → Int32) (z q : Nat) : a_h1_X7_await g z q = if rdy g < g 22 then upd g 8 (rdy g) else a_h1_X7_note (wtC (upd (upd (upd g 8 (rdy g)) 20 1) 9 (r_X7_limited (g 23) 0 (g 21))) z) 100 q := by
  unfold a_h1_X7_await
  rw [rdy_eq]
theorem wtC_at (g : Nat → Int32) : ∀ i r, wtC g i (77 + r) = if r < i then 0 else g (77 + r) := by
  intro i
  induction i with
  | zero => intro r; rw [if_neg (by omega)]; rfl
  | succ i ih =>
    intro r
    show upd (wtC g i) (77 + i) 0 (77 + r) = _
    by_cases h : r = i
    · subst h; rw [pk_us, if_pos (by omega)]
    · rw [pk_un (by omega), ih r]
      by_cases h2 : r < i
      · rw [if_pos h2, if_pos (show r < i + 1 by omega)]
      · rw [if_neg h2, if_neg (show ¬ r < i + 1 by omega)]
theorem pr_20 : v_h3_mode_X5_prepare (g 1) (g 5) (g 19) (g 7) (g 20) (g 22) (g 8) (g 24) (g 25) (g 26) (g 27) = if rdy g < g 22 then g 20 else 1 := by
  unfold v_h3_mode_X5_prepare rdy
  by_cases h : r_X3_holdsLock (g 19) (g 7) = 0
  · rw [if_pos h, if_pos h]
  · rw [if_neg h, if_neg h]
theorem pr_9 : v_h3_power_X5_prepare (g 1) (g 5) (g 19) (g 7) (g 9) (g 21) (g 22) (g 23) (g 8) (g 24) (g 25) (g 26) (g 27) = if rdy g < g 22 then g 9 else v_h0_power_X0_raisePower (g 9) (g 21) (g 23) := by
  unfold v_h3_power_X5_prepare rdy
  by_cases h : r_X3_holdsLock (g 19) (g 7) = 0
  · rw [if_pos h, if_pos h]
  · rw [if_neg h, if_neg h]
theorem pr_8 : v_h3_readyCount_X5_prepare (g 1) (g 5) (g 19) (g 7) (g 8) (g 24) (g 25) (g 26) (g 27) = rdy g := rfl
theorem pr_32 : v_h5_size_X5_prepare (g 1) (g 5) (g 19) (g 7) (g 22) (g 8) (g 24) (g 25) (g 26) (g 27) (g 32) = if rdy g < g 22 then g 32 else g 32 + 1 := by
  unfold v_h5_size_X5_prepare rdy v_h0_size_X2_append
  by_cases h : r_X3_holdsLock (g 19) (g 7) = 0
  · rw [if_pos h, if_pos h]
  · rw [if_neg h, if_neg h]
theorem pr_n : a_h10_X5_prepare (g 1) (g 5) (g 19) (g 7) (g 22) (g 8) (g 24) (g 25) (g 26) (g 27) c = if rdy g < g 22 then c else fillN c 0 8 := by
  unfold a_h10_X5_prepare rdy a_h4_X4_forgetViolations
  by_cases h : r_X3_holdsLock (g 19) (g 7) = 0
  · rw [if_pos h, if_pos h]
  · rw [if_neg h, if_neg h]
theorem pr_t {ti : Int32} {et : Nat → Int32} : a_h11_X5_prepare ti (g 1) (g 5) (g 19) (g 7) (g 22) (g 8) (g 24) (g 25) (g 26) (g 27) et q = if rdy g < g 22 then et else upd et (q % 40) ti := by
  unfold a_h11_X5_prepare rdy a_h1_X2_append
  by_cases h : r_X3_holdsLock (g 19) (g 7) = 0
  · rw [if_pos h, if_pos h]
  · rw [if_neg h, if_neg h]
theorem pr_c {ec : Nat → Int32} : a_h12_X5_prepare (g 1) (g 5) (g 19) (g 7) (g 22) (g 8) (g 24) (g 25) (g 26) (g 27) ec q = if rdy g < g 22 then ec else upd ec (q % 40) 100 := by
  unfold a_h12_X5_prepare rdy a_h2_X2_append
  by_cases h : r_X3_holdsLock (g 19) (g 7) = 0
  · rw [if_pos h, if_pos h]
  · rw [if_neg h, if_neg h]
theorem aw_20 (hz : z ≤ 8) : a_h1_X7_await g z q 20 = if rdy g < g 22 then g 20 else 1 := by
  rw [aw_eq]
  by_cases h : rdy g < g 22
  · rw [if_pos h, if_pos h, pk_un (by decide)]
  · rw [if_neg h, if_neg h, nt_far _ _ _ (by decide) (by decide), wtC_far _ _ _ hz (by omega), pk_un (by decide), pk_us]
theorem aw_9 (hz : z ≤ 8) : a_h1_X7_await g z q 9 = if rdy g < g 22 then g 9 else r_X7_limited (g 23) 0 (g 21) := by
  rw [aw_eq]
  by_cases h : rdy g < g 22
  · rw [if_pos h, if_pos h, pk_un (by decide)]
  · rw [if_neg h, if_neg h, nt_far _ _ _ (by decide) (by decide), wtC_far _ _ _ hz (by omega), pk_us]
theorem aw_8 (hz : z ≤ 8) : a_h1_X7_await g z q 8 = rdy g := by
  rw [aw_eq]
  by_cases h : rdy g < g 22
  · rw [if_pos h, pk_us]
  · rw [if_neg h, nt_far _ _ _ (by decide) (by decide), wtC_far _ _ _ hz (by omega), pk_un (by decide), pk_un (by decide), pk_us]
theorem aw_32 (hz : z ≤ 8) : a_h1_X7_await g z q 32 = if rdy g < g 22 then g 32 else g 32 + 1 := by
  rw [aw_eq]
  by_cases h : rdy g < g 22
  · rw [if_pos h, if_pos h, pk_un (by decide)]
  · rw [if_neg h, if_neg h, nt_32, wtC_far _ _ _ hz (by omega), pk_un (by decide), pk_un (by decide), pk_un (by decide)]
theorem aw_far (hz : z ≤ 8) {k : Nat} (hk : k < 77) (h1 : k ≠ 8) (h2 : k ≠ 9) (h3 : k ≠ 20) (h4 : k ≠ 32) : a_h1_X7_await g z q k = g k := by
  rw [aw_eq]
  by_cases h : rdy g < g 22
  · rw [if_pos h, pk_un h1]
  · rw [if_neg h, nt_far _ _ _ (by omega) h4, wtC_far _ _ _ hz (by omega), pk_un h2, pk_un h3, pk_un h1]
theorem aw_t (hz : z ≤ 8) {k : Nat} (hk : k < 40) : a_h1_X7_await g z q (85 + k) = (if rdy g < g 22 then (fun k => g (85 + k)) else upd (fun k => g (85 + k)) (q % 40) (g 0) : Nat → Int32) k := by
  rw [aw_eq]
  by_cases h : rdy g < g 22
  · rw [if_pos h, if_pos h, pk_un (by omega)]
  · have e : (fun k => wtC (upd (upd (upd g 8 (rdy g)) 20 1) 9 (r_X7_limited (g 23) 0 (g 21))) z (85 + k)) = fun k => g (85 + k) := funext fun k => by
      rw [wtC_far _ _ _ hz (by omega), pk_un (by omega), pk_un (by omega), pk_un (by omega)]
    have e0 : ∀ a b c : Int32, upd (upd (upd g 8 a) 20 b) 9 c 0 = g 0 := fun _ _ _ => rfl
    rw [if_neg h, if_neg h, nt_t _ _ _ hk, e, wtC_far _ _ 0 hz (by omega), e0]
theorem aw_c (hz : z ≤ 8) {k : Nat} (hk : k < 40) : a_h1_X7_await g z q (125 + k) = (if rdy g < g 22 then (fun k => g (125 + k)) else upd (fun k => g (125 + k)) (q % 40) 100 : Nat → Int32) k := by
  rw [aw_eq]
  by_cases h : rdy g < g 22
  · rw [if_pos h, if_pos h, pk_un (by omega)]
  · have e : (fun k => wtC (upd (upd (upd g 8 (rdy g)) 20 1) 9 (r_X7_limited (g 23) 0 (g 21))) z (125 + k)) = fun k => g (125 + k) := funext fun k => by
      rw [wtC_far _ _ _ hz (by omega), pk_un (by omega), pk_un (by omega), pk_un (by omega)]
    rw [if_neg h, if_neg h, nt_c _ _ _ hk, e]
theorem aw_n (hz : z ≤ 8) (ha : Agr c g z) : Agr (if rdy g < g 22 then c else fillN c 0 8) (a_h1_X7_await g z q) z := by
  intro i hi
  rw [aw_eq]
  by_cases h : rdy g < g 22
  · rw [if_pos h, if_pos h, pk_un (by omega), ha i hi]
  · rw [if_neg h, if_neg h, nt_far _ _ _ (by omega) (by omega), wtC_at, if_pos hi, fillN_at, if_pos (by omega)]
end RUN
end PURE4
