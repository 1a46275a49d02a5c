section AUX4
def dn : Nat → Int32
  | 0 => -1
  | k + 1 => nI k
theorem dn_0 {x : Int32} {z : Nat} (h : x = nI z) : x - 1 = dn z := by
  subst h
  cases z with
  | zero => rfl
  | succ k => exact nI_pred k
theorem dn_at {z i : Nat} (h : i < z) : dn (z - i) = nI (z - 1 - i) := by
  rw [show z - i = (z - 1 - i) + 1 by omega]; rfl
theorem dn_ex {z i : Nat} (hz8 : z ≤ 8) (c : dn (z - i) < 0) : z ≤ i := by
  rcases Nat.lt_or_ge i z with h | h
  · rw [dn_at h] at c
    exact absurd c (nI_pos (by omega))
  · exact h
theorem dn_in {z i : Nat} (c : ¬ dn (z - i) < 0) : i < z := by
  rcases Nat.lt_or_ge i z with h | h
  · exact h
  · rw [show z - i = 0 by omega] at c
    exact absurd (show dn 0 < 0 by decide) c
theorem dn_ix (b : Nat) {z i : Nat} (h : i < z) : nI b + dn (z - i) = nI (b + (z - 1 - i)) := by rw [dn_at h, nI_add]
theorem dn_dec {z i : Nat} (hz8 : z ≤ 8) (h : i < z) : dn (z - i) + Int32.ofInt (-1) = dn (z - (i + 1)) := by
  rw [dn_at h, show z - (i + 1) = z - 1 - i by omega]
  cases z - 1 - i with
  | zero => decide
  | succ k => exact pk_m1 k
/-- the violation counts when i rules are looked at, from the last one down -/
def rnC (f : Nat → Int32) (t z : Nat) : Nat → (Nat → Int32)
  | 0 => f
  | i + 1 => upd (rnC f t z i) (77 + (z - 1 - i)) (if r_X7_isViolated (rnC f t z i) t (z - 1 - i) = 0 then 0 else ((rnC f t z i) (77 + (z - 1 - i)) + 1))
def fdR (f : Nat → Int32) (t z : Nat) : Nat → Int32
  | 0 => -1
  | i + 1 => if (if r_X7_isViolated (rnC f t z i) t (z - 1 - i) = 0 then 0 else ((rnC f t z i) (77 + (z - 1 - i)) + 1)) < (rnC f t z i) (69 + (z - 1 - i)) then fdR f t z i else dn (z - i)
theorem rnC_far (f : Nat → Int32) (t z i k : Nat) (hz8 : z ≤ 8) (h : k < 77 ∨ 85 ≤ k) : rnC f t z i k = f k := by
  induction i with
  | zero => rfl
  | succ i ih => exact (pk_un (by omega)).trans ih
def wtC (g : Nat → Int32) : Nat → (Nat → Int32)
  | 0 => g
  | i + 1 => upd (wtC g i) (77 + i) 0
theorem wtC_far (g : Nat → Int32) (i k : Nat) (hi : i ≤ 8) (h : k < 77 ∨ 85 ≤ k) : wtC g i k = g k := by
  induction i with
  | zero => rfl
  | succ i ih => exact (pk_un (by omega)).trans (ih (by omega))
end AUX4
