section SYS
theorem ou_in {x lo hi : Int32} (h : r_X6_outside x lo hi = 0) : ¬ r_X7_in x lo hi = 0 := by
  unfold r_X6_outside at h
  unfold r_X7_in
  by_cases h1 : x < lo
  · rw [if_pos h1] at h; exact absurd h (by decide)
  · rw [if_neg h1] at h ⊢
    by_cases h2 : x ≤ hi
    · rw [if_neg (Int32.not_lt.mpr h2)]; decide
    · rw [if_neg h2] at h; exact absurd h (by decide)
theorem in_ou {x lo hi : Int32} (h : ¬ r_X7_in x lo hi = 0) : r_X6_outside x lo hi = 0 := by
  obtain ⟨h1, h2⟩ := in_ok h
  unfold r_X6_outside
  rw [if_neg h1, if_pos (Int32.not_lt.mp h2)]
theorem ou_n {x : Int32} {lo hi : Nat} (hhi : hi < 2147483648) (hlo : lo < 2147483648) (h : r_X6_outside x (nI lo) (nI hi) = 0) : x = nI x.toNatClampNeg ∧ lo ≤ x.toNatClampNeg ∧ x.toNatClampNeg ≤ hi := in_n hhi hlo (ou_in h)
theorem gd_ex1 {x : Int32} {N i : Nat} (hx : x = nI N) (hN : N < 2147483647) (hi : i ≤ N) (c : x < nI (i + 1)) : N ≤ i := by
  subst hx
  have := (nI_ltI (a := N) (b := i + 1) (by omega) (by omega)).mp c
  omega
theorem gd_in1 {x : Int32} {N i : Nat} (hx : x = nI N) (hN : N < 2147483647) (hi : i ≤ N) (c : ¬ x < nI (i + 1)) : i < N := by
  subst hx
  exact Nat.lt_of_not_le (fun h => c ((nI_ltI (a := N) (b := i + 1) (by omega) (by omega)).mpr (by omega)))
theorem st_succ {P : Nat → Prop} [DecidablePred P] {N i E : Nat} (he : stF P (N - i) i = E) (h : i < N) (hp : ¬ P i) (hq : P (i + 1)) : E = i + 1 := by
  have e := st_next he h hp
  by_cases h2 : i + 1 < N
  · exact st_hit e h2 hq
  · exact st_top e (by omega)
theorem isG_ar (f : Nat → Int32) (p0 p1 p2 : Int32) {b : Nat} (hb : 16 ≤ b) : (fun k => f (b + k)) = fun k => isG f p0 p1 p2 (b + k) := funext fun k => by
  unfold isG a_h1_X7_becomeIsland
  rw [pk_un (by omega), pk_un (by omega), pk_un (by omega), pk_un (by omega)]
theorem rlG_far (f : Nat → Int32) (p0 : Int32) {k : Nat} (h3 : k ≠ 3) (h7 : k ≠ 7) : f k = rlG f p0 k := by
  unfold rlG
  rw [pk_un h7, pk_un h3]
theorem rlG_ar (f : Nat → Int32) (p0 : Int32) {b : Nat} (hb : 8 ≤ b) : (fun k => f (b + k)) = fun k => rlG f p0 (b + k) := funext fun k => rlG_far f p0 (by omega) (by omega)
theorem rlG_3 (f : Nat → Int32) (p0 : Int32) : v_h0_angle_X1_turn (f 3) p0 = rlG f p0 3 := by
  unfold rlG v_h0_angle_X1_turn
  rw [pk_un (by decide), pk_us, fm_rnd]
theorem rlG_7 (f : Nat → Int32) (p0 : Int32) : (0 : Int32) = rlG f p0 7 := by
  unfold rlG
  rw [pk_us]
theorem hk_eq (f : Nat → Int32) : r_X3_holdsLock (f 19) (f 7) = r_X7_hasLock f := rfl
theorem rl_not {f : Nat → Int32} {p0 : Int32} {B : Nat} (h : Ok f B) : ¬ ¬ r_X7_hasLock (rlG f p0) = 0 := by
  refine fun q => q ?_
  have h19 := h.1.2.2.2.2.2.2.2.2.2.1.1
  unfold r_X7_hasLock
  rw [← rlG_7, ← rlG_far f p0 (show 19 ≠ 3 by decide) (by decide), if_pos]
  rw [lt_ti]
  show (0 : Int) < _
  omega
theorem nar01 {x : Int32} (h : x = 0 ∨ x = 1) : narrow .boolean (.int x) = .int x ∧ fits .boolean (.int x) = true := by
  rcases h with h | h <;> (subst h; exact ⟨rfl, rfl⟩)
theorem Ok.co {f : Nat → Int32} {B : Nat} (h : Ok f B) : f 10 = 0 ∨ f 10 = 1 := h.1.2.2.2.2.2.2.1
theorem ag_isG {c f : Nat → Int32} {p0 p1 p2 : Int32} (h : AgN c f) : AgN c (isG f p0 p1 p2) := by
  have e : ∀ k, 16 ≤ k → isG f p0 p1 p2 k = f k := fun k hk => by
    unfold isG a_h1_X7_becomeIsland
    rw [pk_un (by omega), pk_un (by omega), pk_un (by omega), pk_un (by omega)]
  unfold AgN
  rw [e 30 (by decide)]
  exact fun i hi => by rw [e (77 + i) (by omega)]; exact h i hi
theorem ag_rlG {c f : Nat → Int32} {p0 : Int32} (h : AgN c f) : AgN c (rlG f p0) := by
  unfold AgN
  rw [← rlG_far f p0 (show 30 ≠ 3 by decide) (by decide)]
  exact fun i hi => by rw [← rlG_far f p0 (show 77 + i ≠ 3 by omega) (by omega)]; exact h i hi
end SYS
