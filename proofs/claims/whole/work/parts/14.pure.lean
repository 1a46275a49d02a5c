section PURE3
theorem nt_far (g : Nat → Int32) (p : Int32) (q : Nat) {k : Nat} (h : k < 85) (h2 : k ≠ 32) : a_h1_X7_note g p q k = g k := by
  have := Nat.mod_lt q (show 40 > 0 by decide)
  unfold a_h1_X7_note
  rw [pk_un h2, pk_un (by omega), pk_un (by omega)]
theorem nt_hi (g : Nat → Int32) (p : Int32) (q : Nat) {k : Nat} (h : 165 ≤ k) : a_h1_X7_note g p q k = g k := by
  have := Nat.mod_lt q (show 40 > 0 by decide)
  unfold a_h1_X7_note
  rw [pk_un (by omega), pk_un (by omega), pk_un (by omega)]
theorem nt_32 (g : Nat → Int32) (p : Int32) (q : Nat) : a_h1_X7_note g p q 32 = g 32 + 1 := by
  unfold a_h1_X7_note
  rw [pk_us]
theorem nt_t (g : Nat → Int32) (p : Int32) (q : Nat) {k : Nat} (h : k < 40) : a_h1_X7_note g p q (85 + k) = upd (fun k => g (85 + k)) (q % 40) (g 0) k := by
  have := Nat.mod_lt q (show 40 > 0 by decide)
  unfold a_h1_X7_note
  rw [pk_un (by omega), pk_un (by omega)]
  by_cases hk : k = q % 40
  · subst hk; rw [pk_us, pk_us]
  · rw [pk_un (by omega), pk_un hk]
theorem nt_c (g : Nat → Int32) (p : Int32) (q : Nat) {k : Nat} (h : k < 40) : a_h1_X7_note g p q (125 + k) = upd (fun k => g (125 + k)) (q % 40) p k := by
  have := Nat.mod_lt q (show 40 > 0 by decide)
  unfold a_h1_X7_note
  rw [pk_un (by omega)]
  by_cases hk : k = q % 40
  · subst hk; rw [pk_us, pk_us]
  · rw [pk_un (by omega), pk_un (by omega), pk_un hk]
/-- what a rule's count becomes -/
def newM (g : Nat → Int32) (t : Nat) (r : Nat) : Int32 := if r_X7_isViolated g t r = 0 then 0 else (g (77 + r) + 1)
theorem vi_far {g h : Nat → Int32} (hg : ∀ k, k < 77 → h k = g k) (t r : Nat) (hr : r < 8) : r_X7_isViolated h t r = r_X7_isViolated g t r := by
  have := Nat.mod_lt t (show 20 > 0 by decide)
  unfold r_X7_isViolated
  rw [hg (53 + r) (by omega), hg (61 + r) (by omega), hg 1 (by omega), hg 5 (by omega), hg (33 + t % 20) (by omega)]
theorem rnC_at (g : Nat → Int32) (t z : Nat) (hz : z ≤ 8) : ∀ i, i ≤ z → ∀ r, r < 8 → rnC g t z i (77 + r) = if z - i ≤ r ∧ r < z then newM g t r else g (77 + r) := by
  intro i
  induction i with
  | zero =>
    intro _ r hr
    rw [if_neg (by omega)]
    rfl
  | succ i ih =>
    intro hi r hr
    have e : r_X7_isViolated (rnC g t z i) t (z - 1 - i) = r_X7_isViolated g t (z - 1 - i) := vi_far (fun k hk => rnC_far g t z i k hz (Or.inl hk)) t _ (by omega)
    show upd (rnC g t z i) (77 + (z - 1 - i)) _ (77 + r) = _
    by_cases h : r = z - 1 - i
    · subst h
      rw [pk_us, e, ih (by omega) _ (by omega), if_neg (show ¬ (z - i ≤ z - 1 - i ∧ z - 1 - i < z) by omega), if_pos (show z - (i + 1) ≤ z - 1 - i ∧ z - 1 - i < z by omega)]
      rfl
    · rw [pk_un (by omega), ih (by omega) r hr]
      by_cases h2 : z - i ≤ r ∧ r < z
      · rw [if_pos h2, if_pos (by omega)]
      · rw [if_neg h2, if_neg (by omega)]
theorem cvC_at (kn th c : Nat → Int32) (v l d : Int32) (i r : Nat) : cvC kn th c v l d i r = if r < i then (if r_X4_isViolated (kn r) (th r) v l d = 0 then 0 else (c r + 1)) else c r := by
  induction i with
  | zero => rw [if_neg (by omega)]; rfl
  | succ i ih =>
    show upd (cvC kn th c v l d i) i _ r = _
    by_cases h : r = i
    · subst h
      rw [pk_us, ih, if_neg (show ¬ r < r by omega), if_pos (show r < r + 1 by omega)]
    · rw [pk_un h, ih]
      by_cases h2 : r < i
      · rw [if_pos h2, if_pos (show r < i + 1 by omega)]
      · rw [if_neg h2, if_neg (show ¬ r < i + 1 by omega)]
/-- the one number of which is said: the first r below z with P, or -1 -/
def First (P : Nat → Prop) (z : Nat) (x : Int32) : Prop := (x = -1 ∧ ∀ r, r < z → ¬ P r) ∨ ∃ r, r < z ∧ P r ∧ (∀ j, j < r → ¬ P j) ∧ x = nI r
theorem First.one {P : Nat → Prop} {z : Nat} {x y : Int32} (hx : First P z x) (hy : First P z y) : x = y := by
  rcases hx with ⟨h1, h2⟩ | ⟨r, h1, h2, h3, h4⟩ <;> rcases hy with ⟨k1, k2⟩ | ⟨s, k1, k2, k3, k4⟩
  · rw [h1, k1]
  · exact absurd k2 (h2 s k1)
  · exact absurd h2 (k2 r h1)
  · rcases Nat.lt_trichotomy r s with q | q | q
    · exact absurd h2 (k3 r q)
    · rw [h4, k4, q]
    · exact absurd k2 (h3 s q)
theorem nI_m1 {r : Nat} (h : r < 2147483648) : ¬ nI r = -1 := by
  intro e
  have := congrArg Int32.toInt e
  rw [nI_toInt h] at this
  have e1 : ((-1 : Int32)).toInt = -1 := rfl
  omega
theorem cvD_first (kn th du c : Nat → Int32) (v l d : Int32) (i : Nat) (hi : i ≤ 8) : First (fun r => ¬ (if r_X4_isViolated (kn r) (th r) v l d = 0 then (0 : Int32) else (c r + 1)) < du r) i (cvD kn th du c v l d i) := by
  induction i with
  | zero => exact Or.inl ⟨rfl, fun r h => absurd h (by omega)⟩
  | succ i ih =>
    have e : cvC kn th c v l d i i = c i := by rw [cvC_at, if_neg (by omega)]
    have hc : cvD kn th du c v l d (i + 1) = if cvD kn th du c v l d i = -1 then (if (if r_X4_isViolated (kn i) (th i) v l d = 0 then 0 else (cvC kn th c v l d i i + 1)) < du i then cvD kn th du c v l d i else nI i) else cvD kn th du c v l d i := rfl
    rw [e] at hc
    rw [hc]
    rcases ih (by omega) with ⟨h1, h2⟩ | ⟨r, h1, h2, h3, h4⟩
    · rw [if_pos h1]
      by_cases hb : (if r_X4_isViolated (kn i) (th i) v l d = 0 then (0 : Int32) else (c i + 1)) < du i
      · rw [if_pos hb]
        refine Or.inl ⟨h1, fun r hr => ?_⟩
        rcases Nat.lt_or_ge r i with q | q
        · exact h2 r q
        · rw [show r = i by omega]
          exact fun hn => hn hb
      · rw [if_neg hb]
        exact Or.inr ⟨i, by omega, hb, h2, rfl⟩
    · rw [if_neg (by rw [h4]; exact nI_m1 (by omega))]
      exact Or.inr ⟨r, by omega, h2, h3, h4⟩
theorem fdR_first (g : Nat → Int32) (t z : Nat) (hz : z ≤ 8) : First (fun r => ¬ newM g t r < g (69 + r)) z (fdR g t z z) := by
  have key : ∀ i, i ≤ z → ((fdR g t z i = -1 ∧ ∀ r, z - i ≤ r → r < z → ¬ ¬ newM g t r < g (69 + r)) ∨ ∃ r, z - i ≤ r ∧ r < z ∧ ¬ newM g t r < g (69 + r) ∧ (∀ j, z - i ≤ j → j < r → ¬ ¬ newM g t j < g (69 + j)) ∧ fdR g t z i = nI r) := by
    intro i
    induction i with
    | zero => exact fun _ => Or.inl ⟨rfl, fun r h1 h2 => absurd h1 (by omega)⟩
    | succ i ih =>
      intro hi
      have e1 : r_X7_isViolated (rnC g t z i) t (z - 1 - i) = r_X7_isViolated g t (z - 1 - i) := vi_far (fun k hk => rnC_far g t z i k hz (Or.inl hk)) t _ (by omega)
      have e2 : rnC g t z i (77 + (z - 1 - i)) = g (77 + (z - 1 - i)) := by rw [rnC_at g t z hz i (by omega) _ (by omega), if_neg (by omega)]
      have e3 : rnC g t z i (69 + (z - 1 - i)) = g (69 + (z - 1 - i)) := rnC_far g t z i _ hz (by omega)
      have hc : fdR g t z (i + 1) = if (if r_X7_isViolated (rnC g t z i) t (z - 1 - i) = 0 then 0 else ((rnC g t z i) (77 + (z - 1 - i)) + 1)) < (rnC g t z i) (69 + (z - 1 - i)) then fdR g t z i else dn (z - i) := rfl
      rw [e1, e2, e3, dn_at (by omega)] at hc
      have hc : fdR g t z (i + 1) = if newM g t (z - 1 - i) < g (69 + (z - 1 - i)) then fdR g t z i else nI (z - 1 - i) := hc
      rw [hc]
      by_cases hb : newM g t (z - 1 - i) < g (69 + (z - 1 - i))
      · rw [if_pos hb]
        rcases ih (by omega) with ⟨h1, h2⟩ | ⟨r, h1, h2, h3, h4, h5⟩
        · refine Or.inl ⟨h1, fun r a b => ?_⟩
          rcases Nat.lt_or_ge r (z - i) with q | q
          · rw [show r = z - 1 - i by omega]; exact fun hn => hn hb
          · exact h2 r q b
        · refine Or.inr ⟨r, by omega, h2, h3, fun j a b => ?_, h5⟩
          rcases Nat.lt_or_ge j (z - i) with q | q
          · rw [show j = z - 1 - i by omega]; exact fun hn => hn hb
          · exact h4 j q b
      · rw [if_neg hb]
        exact Or.inr ⟨z - 1 - i, by omega, by omega, hb, fun j a b => absurd a (by omega), rfl⟩
  rcases key z (Nat.le_refl z) with ⟨h1, h2⟩ | ⟨r, h1, h2, h3, h4, h5⟩
  · exact Or.inl ⟨h1, fun r hr => h2 r (by omega) hr⟩
  · exact Or.inr ⟨r, h2, h3, fun j hj => h4 j (by omega) hj, h5⟩
/-- the change of the frequency, both ways -/
theorem chg {a b y : Int32} (ha : rg a 40000 70000) (hb : rg b 40000 70000) : (if (if 0 ≤ a - b then a - b else -(a - b) : Int32) ≤ y then 0 else 1 : Int32) = (if y < a - b then 1 else (if -(a - b) ≤ y then 0 else 1 : Int32) : Int32) := by
  have e0 : ((0 : Int32)).toInt = 0 := rfl
  obtain ⟨a1, a2⟩ := ha
  obtain ⟨b1, b2⟩ := hb
  have hs : (a - b).toInt = a.toInt - b.toInt := ti_sub (by omega) (by omega)
  have hn : (-(a - b)).toInt = -(a.toInt - b.toInt) := by rw [ti_neg (by rw [hs]; omega), hs]
  by_cases h0 : 0 ≤ a - b
  · have q0 := h0
    rw [le_ti, hs, e0] at q0
    rw [if_pos h0]
    by_cases h1 : a - b ≤ y
    · have q1 := h1
      rw [le_ti, hs] at q1
      rw [if_pos h1, if_neg (show ¬ y < a - b by rw [lt_ti, hs]; omega), if_pos (show -(a - b) ≤ y by rw [le_ti, hn]; omega)]
    · have q1 := h1
      rw [le_ti, hs] at q1
      rw [if_neg h1, if_pos (show y < a - b by rw [lt_ti, hs]; omega)]
  · have q0 := h0
    rw [le_ti, hs, e0] at q0
    rw [if_neg h0]
    by_cases h1 : -(a - b) ≤ y
    · have q1 := h1
      rw [le_ti, hn] at q1
      rw [if_pos h1, if_neg (show ¬ y < a - b by rw [lt_ti, hs]; omega)]
    · have q1 := h1
      rw [le_ti, hn] at q1
      rw [if_neg h1]
      by_cases h2 : y < a - b
      · rw [if_pos h2]
      · rw [if_neg h2]
theorem vi_eq {g : Nat → Int32} (t r : Nat) (h5 : rg (g 5) 40000 70000) (hp : ∀ k, k < 20 → rg (g (33 + k)) 40000 70000) : r_X4_isViolated (g (53 + r)) (g (61 + r)) (g 1) (g 5) (r_X3_changeUntil (g 5) (fun k => g (33 + k)) t) = r_X7_isViolated g t r := by
  have hm := Nat.mod_lt t (show 20 > 0 by decide)
  unfold r_X4_isViolated r_X7_isViolated r_X3_changeUntil
  rw [chg h5 (hp _ hm)]
end PURE3
