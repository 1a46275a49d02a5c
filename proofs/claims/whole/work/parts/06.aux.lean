section AUX
theorem xor_nn {a b : Int32} (ha : 0 ≤ a) (hb : 0 ≤ b) : 0 ≤ a ^^^ b := by
  rw [Int32.le_iff_toInt_le] at *
  simp only [← Int32.toInt_toBitVec, Int32.toBitVec_xor] at *
  have h1 : a.toBitVec.msb = false := by
    rw [BitVec.msb_eq_toInt]; simpa using ha
  have h2 : b.toBitVec.msb = false := by
    rw [BitVec.msb_eq_toInt]; simpa using hb
  have h3 : (a.toBitVec ^^^ b.toBitVec).msb = false := by rw [BitVec.msb_xor, h1, h2]; rfl
  rw [BitVec.msb_eq_toInt] at h3
  simpa using h3
theorem fm_mod {x : Int32} {t : Nat} (d : Nat) (h : x = nI t) (ht : t < 2147483648) (h0 : 0 < d) (hd : d < 2147483648) : r_J9_floorMod_7cf53 x (nI d) = nI (t % d) := by
  subst h
  unfold r_J9_floorMod_7cf53
  rw [if_pos (xor_nn (nI_pos' ht) (nI_pos' hd))]
  exact pk_rem ht h0 hd
theorem out_lt {x : Int32} {z : Nat} (h : x = nI z) (hz : z ≤ 8) (c : r_X6_outside x 0 7 = 0) : z < 8 := by
  subst h
  unfold r_X6_outside at c
  by_cases h1 : nI z < 0
  · rw [if_pos h1] at c; exact absurd c (by decide)
  · rw [if_neg h1] at c
    by_cases h2 : nI z ≤ 7
    · have := (nI_leI (a := z) (b := 7) (by omega) (by omega)).mp h2
      omega
    · rw [if_neg h2] at c; exact absurd c (by decide)
/-- the counts and the first due rule, when i rules are looked at -/
def cvC (kn th ct : Nat → Int32) (v f c : Int32) : Nat → (Nat → Int32)
  | 0 => ct
  | i + 1 => upd (cvC kn th ct v f c i) i (if r_X4_isViolated (kn i) (th i) v f c = 0 then 0 else (cvC kn th ct v f c i i + 1))
def cvD (kn th du ct : Nat → Int32) (v f c : Int32) : Nat → Int32
  | 0 => -1
  | i + 1 => if cvD kn th du ct v f c i = -1 then (if (if r_X4_isViolated (kn i) (th i) v f c = 0 then 0 else (cvC kn th ct v f c i i + 1)) < du i then cvD kn th du ct v f c i else nI i) else cvD kn th du ct v f c i
theorem nn_ix {x : Int32} (h : ¬ x < 0) : ∃ j : Nat, j < 2147483648 ∧ x = nI j := nI_of h
/-- an index that is tested from both sides -/
theorem ix_of {x : Int32} (h : ¬ x < 0) : x = nI x.toNatClampNeg ∧ x.toNatClampNeg < 2147483648 := by
  obtain ⟨j, hj, rfl⟩ := nI_of h
  rw [nI_clamp hj]
  exact ⟨rfl, hj⟩
theorem ix_lt {x : Int32} (h : ¬ x < 0) (n : Nat) (hn : n < 2147483648) (h2 : ¬ nI n ≤ x) : x.toNatClampNeg < n := by
  obtain ⟨j, hj, rfl⟩ := nI_of h
  rw [nI_clamp hj]
  exact Nat.lt_of_not_le (fun q => h2 ((nI_leI hn hj).mpr q))
theorem kept_nn {es p0 : Int32} (h : ¬ r_X2_isKept es p0 = 0) : ¬ p0 < 0 := by
  intro hn
  apply h
  unfold r_X2_isKept
  rw [if_pos hn]
end AUX
section AUX2
theorem rem_ix (b d : Nat) {x : Int32} {q : Nat} (h : x = nI q) (hq : q < 2147483648) (h0 : 0 < d) (hd : d < 2147483648) : nI b + (x - x / nI d * nI d) = nI (b + q % d) := by
  subst h
  rw [pk_rem hq h0 hd, nI_add]
theorem ix_add (b : Nat) {x : Int32} {z : Nat} (h : x = nI z) : nI b + x = nI (b + z) := by rw [h, nI_add]
theorem in_ok {x lo hi : Int32} (h : ¬ r_X7_in x lo hi = 0) : ¬ x < lo ∧ ¬ hi < x := by
  unfold r_X7_in at h
  by_cases h1 : x < lo
  · rw [if_pos h1] at h; exact absurd rfl h
  · rw [if_neg h1] at h
    by_cases h2 : hi < x
    · rw [if_pos h2] at h; exact absurd rfl h
    · exact ⟨h1, h2⟩
theorem in_of {x lo hi : Int32} (c : (if r_X7_in x lo hi = 0 then (1 : Int32) else 0) = 0) : ¬ x < lo ∧ ¬ hi < x := by
  apply in_ok
  intro h
  rw [if_pos h] at c
  exact absurd c (by decide)
theorem in_ix {x : Int32} {n : Nat} (c : (if r_X7_in x 0 (nI n) = 0 then (1 : Int32) else 0) = 0) (hn : n < 2147483648 := by decide) : x = nI x.toNatClampNeg ∧ x.toNatClampNeg < n + 1 := by
  obtain ⟨h1, h2⟩ := in_of c
  obtain ⟨j, hj, rfl⟩ := nI_of h1
  rw [nI_clamp hj]
  refine ⟨rfl, Nat.lt_succ_of_le (Nat.le_of_not_lt (fun q => h2 (nI_lt q hj)))⟩
theorem vio_ok {x p : Int32} {z : Nat} (hz : x = nI z) (hz8 : z ≤ 8) (c : (if r_X7_in p 0 (x - 1) = 0 then (1 : Int32) else 0) = 0) : p = nI p.toNatClampNeg ∧ p.toNatClampNeg < z := by
  obtain ⟨h1, h2⟩ := in_of c
  obtain ⟨j, hj, rfl⟩ := nI_of h1
  rw [nI_clamp hj]
  refine ⟨rfl, ?_⟩
  subst hz
  cases z with
  | zero =>
    exfalso
    apply h2
    rw [show nI 0 - 1 = (-1 : Int32) from rfl, Int32.lt_iff_toInt_lt, nI_toInt hj]
    have : ((-1 : Int32)).toInt = -1 := rfl
    omega
  | succ k =>
    rw [nI_pred] at h2
    exact Nat.lt_succ_of_le (Nat.le_of_not_lt (fun q => h2 (nI_lt q hj)))
end AUX2
