section PURE
theorem i32_eq {a b : Int32} (h : a.toInt = b.toInt) : a = b := Int32.toInt_inj.mp h
theorem bm {x : Int} (h1 : -2147483648 ≤ x) (h2 : x < 2147483648) : x.bmod (2 ^ 32) = x := by
  apply Int.bmod_eq_of_le <;> omega
theorem ti_lo (a : Int32) : -2147483648 ≤ a.toInt := Int32.le_toInt a
theorem ti_hi (a : Int32) : a.toInt < 2147483648 := Int32.toInt_lt a
theorem ti_add {a b : Int32} (h1 : -2147483648 ≤ a.toInt + b.toInt) (h2 : a.toInt + b.toInt < 2147483648) : (a + b).toInt = a.toInt + b.toInt := by
  rw [Int32.toInt_add, bm h1 h2]
theorem ti_sub {a b : Int32} (h1 : -2147483648 ≤ a.toInt - b.toInt) (h2 : a.toInt - b.toInt < 2147483648) : (a - b).toInt = a.toInt - b.toInt := by
  rw [Int32.toInt_sub, bm h1 h2]
theorem ti_mul {a b : Int32} (h1 : -2147483648 ≤ a.toInt * b.toInt) (h2 : a.toInt * b.toInt < 2147483648) : (a * b).toInt = a.toInt * b.toInt := by
  rw [Int32.toInt_mul, bm h1 h2]
theorem ti_neg {a : Int32} (h1 : -2147483648 < a.toInt) : (-a).toInt = -a.toInt := by
  have := ti_hi a
  rw [Int32.toInt_neg, bm (by omega) (by omega)]
theorem tdiv_nn {a : Int} (b : Int) (h : 0 ≤ a) : a.tdiv b = a / b := Int.tdiv_eq_ediv_of_nonneg h
theorem tdiv_ng {a : Int} (b : Int) (h : a ≤ 0) : a.tdiv b = -((-a) / b) := by
  have h1 : a = -(-a) := by omega
  rw [h1, Int.neg_tdiv, Int.tdiv_eq_ediv_of_nonneg (by omega), Int.neg_neg]
theorem ti_divM (x : Int32) : (x / 1000000).toInt = x.toInt.tdiv 1000000 := by
  have e : ((1000000 : Int32)).toInt = 1000000 := rfl
  have h1 := ti_lo x
  have h2 := ti_hi x
  rw [Int32.toInt_div, e]
  apply bm
  · rcases Int.le_total 0 x.toInt with h | h
    · rw [tdiv_nn _ h]; omega
    · rw [tdiv_ng _ h]; omega
  · rcases Int.le_total 0 x.toInt with h | h
    · rw [tdiv_nn _ h]; omega
    · rw [tdiv_ng _ h]; omega
theorem ti_remM (x : Int32) : (x - x / 1000000 * 1000000).toInt = x.toInt - x.toInt.tdiv 1000000 * 1000000 := by
  have e : ((1000000 : Int32)).toInt = 1000000 := rfl
  have hd := ti_divM x
  have h1 := ti_lo x
  have h2 := ti_hi x
  rcases Int.le_total 0 x.toInt with h | h
  · rw [tdiv_nn _ h] at hd ⊢
    have hm : (x / 1000000 * 1000000).toInt = x.toInt / 1000000 * 1000000 := by
      rw [ti_mul (by rw [hd, e]; omega) (by rw [hd, e]; omega), hd, e]
    rw [ti_sub (by rw [hm]; omega) (by rw [hm]; omega), hm]
  · rw [tdiv_ng _ h] at hd ⊢
    have hm : (x / 1000000 * 1000000).toInt = -(-x.toInt / 1000000) * 1000000 := by
      rw [ti_mul (by rw [hd, e]; omega) (by rw [hd, e]; omega), hd, e]
    rw [ti_sub (by rw [hm]; omega) (by rw [hm]; omega), hm]
/-- round is the number's rest by a million, from 0 on -/
theorem rnd_toInt (x : Int32) : (r_X7_round x).toInt = x.toInt % 1000000 := by
  have e : ((1000000 : Int32)).toInt = 1000000 := rfl
  have hr := ti_remM x
  have h1 := ti_lo x
  have h2 := ti_hi x
  unfold r_X7_round
  rcases Int.le_total 0 x.toInt with h | h
  · rw [tdiv_nn _ h] at hr
    have hp : 0 ≤ (x - x / 1000000 * 1000000) := by
      rw [Int32.le_iff_toInt_le, hr]
      show (0 : Int) ≤ _
      omega
    rw [if_pos hp, hr]
    omega
  · rw [tdiv_ng _ h] at hr
    by_cases hp : 0 ≤ (x - x / 1000000 * 1000000)
    · rw [if_pos hp]
      rw [Int32.le_iff_toInt_le, hr] at hp
      have hp : (0 : Int) ≤ x.toInt - -(-x.toInt / 1000000) * 1000000 := hp
      rw [hr]
      omega
    · rw [if_neg hp]
      rw [Int32.le_iff_toInt_le, hr] at hp
      have hp : ¬ (0 : Int) ≤ x.toInt - -(-x.toInt / 1000000) * 1000000 := hp
      rw [ti_add (by rw [hr, e]; omega) (by rw [hr, e]; omega), hr, e]
      omega
theorem xor_sgn (x : Int32) : 0 ≤ (x ^^^ 1000000) ↔ 0 ≤ x := by
  rw [Int32.le_iff_toInt_le, Int32.le_iff_toInt_le]
  simp only [← Int32.toInt_toBitVec, Int32.toBitVec_xor]
  have h3 : (x.toBitVec ^^^ (1000000 : Int32).toBitVec).msb = x.toBitVec.msb := by
    rw [BitVec.msb_xor, show ((1000000 : Int32).toBitVec).msb = false from rfl, Bool.xor_false]
  rw [BitVec.msb_eq_toInt, BitVec.msb_eq_toInt] at h3
  have h4 := decide_eq_decide.mp h3
  show (0 : Int) ≤ _ ↔ (0 : Int) ≤ _
  omega
theorem fm_rnd (x : Int32) : r_J9_floorMod_7cf53 x 1000000 = r_X7_round x := by
  have hr := ti_remM x
  have h1 := ti_lo x
  have h2 := ti_hi x
  unfold r_J9_floorMod_7cf53 r_X7_round
  have h0 : (0 ≤ x) ↔ 0 ≤ x.toInt := Int32.le_iff_toInt_le
  by_cases hx : 0 ≤ (x ^^^ 1000000)
  · rw [if_pos hx]
    have h := h0.mp ((xor_sgn x).mp hx)
    rw [tdiv_nn _ h] at hr
    have hp : 0 ≤ (x - x / 1000000 * 1000000) := by
      rw [Int32.le_iff_toInt_le, hr]
      show (0 : Int) ≤ _
      omega
    rw [if_pos hp]
  · rw [if_neg hx]
    have h : x.toInt ≤ 0 := by
      rcases Int.le_total x.toInt 0 with q | q
      · exact q
      · exact absurd ((xor_sgn x).mpr (h0.mpr q)) hx
    rw [tdiv_ng _ h] at hr
    by_cases hz : (x - x / 1000000 * 1000000) = 0
    · rw [if_pos hz, if_pos (by rw [hz]; exact Int32.le_refl _)]
    · rw [if_neg hz]
      have hn : ¬ 0 ≤ (x - x / 1000000 * 1000000) := by
        intro hp
        rw [Int32.le_iff_toInt_le, hr] at hp
        have hp : (0 : Int) ≤ x.toInt - -(-x.toInt / 1000000) * 1000000 := hp
        apply hz
        apply i32_eq
        rw [hr]
        show _ = (0 : Int)
        omega
      rw [if_neg hn]
theorem rnd_rg (x : Int32) : 0 ≤ (r_X7_round x).toInt ∧ (r_X7_round x).toInt ≤ 999999 := by
  rw [rnd_toInt]
  omega
end PURE
