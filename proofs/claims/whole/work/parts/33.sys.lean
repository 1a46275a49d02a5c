section CNT
/-- the violation counts are counts -/
def Cn (f : Nat → Int32) (B : Nat) : Prop := ∀ i, i < (f 30).toNatClampNeg → ∃ n : Nat, n ≤ B ∧ f (77 + i) = nI n
theorem mid_cn {g : Nat → Int32} {t z q : Nat} (hz : z ≤ 8) {i : Nat} (hi : i < z) : midT g t z q (77 + i) = 0 ∨ midT g t z q (77 + i) = g (77 + i) + 1 ∨ midT g t z q (77 + i) = g (77 + i) := by
  have hn : newM g (t + 1) i = 0 ∨ newM g (t + 1) i = g (77 + i) + 1 := by
    unfold newM
    by_cases h : r_X7_isViolated g (t + 1) i = 0
    · rw [if_pos h]; exact Or.inl rfl
    · rw [if_neg h]; exact Or.inr rfl
  have hr : rnC g (t + 1) z z (77 + i) = newM g (t + 1) i := by
    rw [rnC_at g (t + 1) z hz z (Nat.le_refl z) i (by omega), if_pos (by omega)]
  unfold midT
  by_cases h1 : g 20 = 1
  · rw [if_pos h1]
    unfold a_h1_X7_run
    by_cases c1 : r_X7_hasLock g = 0
    · rw [if_pos c1, tr_far _ _ _ (by omega) (by omega) (by omega) (by omega) (by omega)]; exact Or.inr (Or.inr rfl)
    · rw [if_neg c1]
      by_cases c2 : fdR g (t + 1) z z = -1
      · rw [if_pos c2, pk_un (by omega), hr]
        exact hn.elim Or.inl (fun h => Or.inr (Or.inl h))
      · rw [if_neg c2, tr_far _ _ _ (by omega) (by omega) (by omega) (by omega) (by omega), hr]
        exact hn.elim Or.inl (fun h => Or.inr (Or.inl h))
  · rw [if_neg h1]
    by_cases h2 : g 20 = 0
    · rw [if_pos h2, aw_eq]
      by_cases h : rdy g < g 22
      · rw [if_pos h, pk_un (by omega)]; exact Or.inr (Or.inr rfl)
      · rw [if_neg h, nt_far _ _ _ (by omega) (by omega), wtC_at, if_pos hi]; exact Or.inl rfl
    · rw [if_neg h2]; exact Or.inr (Or.inr rfl)
theorem cn_tick {f : Nat → Int32} {B : Nat} (h : Ok f B) (hc : Cn f B) : Cn (tickN f) (B + 1) := by
  obtain ⟨hI, t, z, q, ht, h2, hz, hz8, hq, h6⟩ := h
  unfold Cn at hc ⊢
  have hcl : (f 30).toNatClampNeg = z := by rw [hz, nI_clamp (show z < 2 ^ 31 by omega)]
  rw [hcl] at hc
  have e30 : (tickN f) 30 = f 30 := by
    unfold tickN
    rw [hcl]
    exact tk_30 hz8
  rw [e30, hcl]
  intro i hi
  obtain ⟨n, hn, e⟩ := hc i hi
  have k : tickN f (77 + i) = midT (preT f) (f 0).toNatClampNeg z (f 32).toNatClampNeg (77 + i) := by
    unfold tickN tickS
    rw [hcl, fin_far _ _ (by omega) (by omega)]
  have p := pre_far f (show 8 ≤ 77 + i by omega)
  rcases mid_cn (g := preT f) (t := (f 0).toNatClampNeg) (q := (f 32).toNatClampNeg) hz8 hi with r | r | r
  · exact ⟨0, by omega, k.trans r⟩
  · exact ⟨n + 1, by omega, by rw [k, r, p, e, nI_1]⟩
  · exact ⟨n, by omega, by rw [k, r, p, e]⟩
theorem cn_it {f : Nat → Int32} {B : Nat} (h : Ok f B) (hc : Cn f B) : ∀ i : Nat, B + i < 2147483648 → Cn (itf f i) (B + i) := by
  intro i
  induction i with
  | zero => exact fun _ => hc
  | succ i ih => exact fun hB => cn_tick (B := B + i) (ok_it h i (by omega)) (ih (by omega))
theorem Cn.up {f : Nat → Int32} {B B' : Nat} (h : Cn f B) (hB : B ≤ B') : Cn f B' := fun i hi => by
  obtain ⟨n, h1, h2⟩ := h i hi
  exact ⟨n, by omega, h2⟩
end CNT
section READ
theorem ms_k (p0 : Int32) : k_X6_measure p0 = v_h0_thrown_X7_measure p0 := by
  unfold k_X6_measure v_h0_thrown_X7_measure
  by_cases h : r_X7_in p0 0 9 = 0
  · rw [if_pos h]
    have ne : ∀ c : Int32, ¬ r_X7_in c 0 9 = 0 → ¬ p0 = c := fun c hc q => hc (q ▸ h)
    rw [if_neg (ne 0 (by decide)), if_neg (ne 1 (by decide)), if_neg (ne 2 (by decide)), if_neg (ne 3 (by decide)), if_neg (ne 4 (by decide)), if_neg (ne 5 (by decide)), if_neg (ne 6 (by decide)), if_neg (ne 7 (by decide)), if_neg (ne 8 (by decide)), if_neg (ne 9 (by decide))]
  · rw [if_neg h]
    obtain ⟨e, -, hj⟩ := in_n (lo := 0) (hi := 9) (by decide) (by decide) h
    generalize p0.toNatClampNeg = j at e hj
    subst e
    rcases (show j = 0 ∨ j = 1 ∨ j = 2 ∨ j = 3 ∨ j = 4 ∨ j = 5 ∨ j = 6 ∨ j = 7 ∨ j = 8 ∨ j = 9 by omega) with rfl | rfl | rfl | rfl | rfl | rfl | rfl | rfl | rfl | rfl <;> rfl
theorem ms_r {f : Nat → Int32} {p0 : Int32} (h0 : v_h0_thrown_X7_measure p0 = 0) : r_X6_measure (f 0) (f 1) (f 2) (f 3) (f 4) (f 5) (f 6) (f 7) (f 9) (f 8) p0 = r_X7_measure f p0 := by
  have h : ¬ r_X7_in p0 0 9 = 0 := fun q => by
    unfold v_h0_thrown_X7_measure at h0
    rw [if_pos q] at h0
    exact absurd h0 (by decide)
  unfold r_X7_measure
  rw [th_1, if_neg h, th_0]
  obtain ⟨e, -, hj⟩ := in_n (lo := 0) (hi := 9) (by decide) (by decide) h
  generalize p0.toNatClampNeg = j at e hj ⊢
  subst e
  rcases (show j = 0 ∨ j = 1 ∨ j = 2 ∨ j = 3 ∨ j = 4 ∨ j = 5 ∨ j = 6 ∨ j = 7 ∨ j = 8 ∨ j = 9 by omega) with rfl | rfl | rfl | rfl | rfl | rfl | rfl | rfl | rfl | rfl <;> rfl
theorem in_m1 {p : Int32} {z : Nat} (hz : z < 2147483648) : r_X7_in p 0 (nI z - 1) = 0 ↔ p < 0 ∨ nI z ≤ p := by
  have e0 : ((0 : Int32)).toInt = 0 := rfl
  have em : (nI z - 1).toInt = (z : Int) - 1 := by
    cases z with
    | zero => rfl
    | succ k => rw [nI_pred, nI_toInt (by omega)]; omega
  unfold r_X7_in
  by_cases h1 : p < 0
  · rw [if_pos h1]; exact ⟨fun _ => Or.inl h1, fun _ => rfl⟩
  · rw [if_neg h1]
    by_cases h2 : nI z - 1 < p
    · rw [if_pos h2]
      refine ⟨fun _ => Or.inr ?_, fun _ => rfl⟩
      rw [lt_ti, em] at h2
      rw [le_ti, nI_toInt hz]
      omega
    · rw [if_neg h2]
      refine ⟨fun q => absurd q (by decide), fun q => ?_⟩
      rcases q with q | q
      · exact absurd q h1
      · rw [lt_ti, em] at h2
        rw [le_ti, nI_toInt hz] at q
        omega
theorem co_of {f cf : Nat → Int32} {p0 : Int32} {z B : Nat} (hz : f 30 = nI z) (hz8 : z ≤ 8) (ha : AgN cf f) (hc : Cn f B) (hB : B < 2147483648) :
    (r_X7_in p0 0 (f 30 - 1) = 0 → r_X4_countOf (f 30) cf p0 = -1) ∧ (¬ r_X7_in p0 0 (f 30 - 1) = 0 → r_X4_countOf (f 30) cf p0 = f (77 + p0.toNatClampNeg) ∧ ¬ r_X4_countOf (f 30) cf p0 = -1) := by
  have hcl : (f 30).toNatClampNeg = z := by rw [hz, nI_clamp (show z < 2 ^ 31 by omega)]
  unfold AgN at ha
  unfold Cn at hc
  rw [hcl] at ha hc
  rw [hz]
  refine ⟨fun h => ?_, fun h => ?_⟩
  · have q := (in_m1 (by omega)).mp h
    unfold r_X4_countOf
    rcases q with q | q
    · rw [if_pos q]
    · by_cases h1 : p0 < 0
      · rw [if_pos h1]
      · rw [if_neg h1, if_pos q]
  · have q : ¬ (p0 < 0 ∨ nI z ≤ p0) := fun w => h ((in_m1 (by omega)).mpr w)
    have h1 : ¬ p0 < 0 := fun w => q (Or.inl w)
    have h2 : ¬ nI z ≤ p0 := fun w => q (Or.inr w)
    obtain ⟨j, hj, rfl⟩ := nI_of h1
    have hjz : j < z := Nat.lt_of_not_le (fun w => h2 (nI_le w hj))
    have e : r_X4_countOf (nI z) cf (nI j) = f (77 + (nI j).toNatClampNeg) := by
      unfold r_X4_countOf
      rw [if_neg h1, if_neg h2, if_neg (show ¬ (8 : Int32) ≤ nI j from nI_ge (a := j) (b := 8) (by omega) (by decide)), nI_clamp hj]
      exact ha j hjz
    refine ⟨e, ?_⟩
    rw [e, nI_clamp hj]
    obtain ⟨n, hn, e2⟩ := hc j hjz
    rw [e2]
    intro w
    have e3 : (nI n).toInt = (-1 : Int32).toInt := by rw [w]
    rw [nI_toInt (by omega)] at e3
    have : ((-1 : Int32)).toInt = -1 := rfl
    omega
theorem vi_k {f cf : Nat → Int32} {p0 : Int32} {z B : Nat} (hz : f 30 = nI z) (hz8 : z ≤ 8) (ha : AgN cf f) (hc : Cn f B) (hB : B < 2147483648) : k_X6_violations (f 30) cf p0 = v_h0_thrown_X7_violations f p0 := by
  obtain ⟨a1, a2⟩ := co_of (p0 := p0) hz hz8 ha hc hB
  unfold k_X6_violations v_h0_thrown_X7_violations
  by_cases h : r_X7_in p0 0 (f 30 - 1) = 0
  · rw [if_pos h, if_pos (a1 h)]
  · rw [if_neg h, if_neg (a2 h).2]
theorem vi_r {f cf : Nat → Int32} {p0 : Int32} {z B : Nat} (hz : f 30 = nI z) (hz8 : z ≤ 8) (ha : AgN cf f) (hc : Cn f B) (hB : B < 2147483648) (h0 : v_h0_thrown_X7_violations f p0 = 0) : r_X6_violations (f 30) cf p0 = r_X7_violations f p0 := by
  obtain ⟨a1, a2⟩ := co_of (p0 := p0) hz hz8 ha hc hB
  have h : ¬ r_X7_in p0 0 (f 30 - 1) = 0 := fun q => by
    unfold v_h0_thrown_X7_violations at h0
    rw [if_pos q] at h0
    exact absurd h0 (by decide)
  unfold r_X6_violations r_X7_violations
  rw [th_1, if_neg h, th_0, if_neg (a2 h).2]
  exact (a2 h).1
theorem kept_iff {f : Nat → Int32} {p0 : Int32} {q : Nat} (hq : f 32 = nI q) (hq2 : q < 2147483648) : r_X2_isKept (f 32) p0 = 0 ↔ (r_X7_in p0 0 (f 32 - 1) = 0 ∨ ¬ (f 32 - 40) ≤ p0) := by
  rw [hq, in_m1 hq2]
  unfold r_X2_isKept
  by_cases h1 : p0 < 0
  · rw [if_pos h1]; exact ⟨fun _ => Or.inl (Or.inl h1), fun _ => rfl⟩
  · rw [if_neg h1]
    by_cases h2 : nI q ≤ p0
    · rw [if_pos h2]; exact ⟨fun _ => Or.inl (Or.inr h2), fun _ => rfl⟩
    · rw [if_neg h2]
      by_cases h3 : p0 < nI q - 40
      · rw [if_pos h3]; exact ⟨fun _ => Or.inr (Int32.not_le.mpr h3), fun _ => rfl⟩
      · rw [if_neg h3]
        refine ⟨fun w => absurd w (by decide), fun w => ?_⟩
        rcases w with (w | w) | w
        · exact absurd w h1
        · exact absurd w h2
        · exact absurd (Int32.not_lt.mp h3) w
theorem ev_r {f : Nat → Int32} {p0 p1 : Int32} {q : Nat} (hq : f 32 = nI q) (hq2 : q < 2147483648) (h0 : v_h0_thrown_X7_event p1 = 0) : r_X6_event (f 32) (fun k => f (85 + k)) (fun k => f (125 + k)) p0 p1 = r_X7_event f p0 p1 := by
  have h : ¬ r_X7_in p1 0 1 = 0 := fun w => by
    unfold v_h0_thrown_X7_event at h0
    rw [if_pos w] at h0
    exact absurd h0 (by decide)
  unfold r_X6_event r_X7_event r_X2_timeOf r_X2_causeOf
  rw [ou_if, if_neg h, if_neg h]
  have key := kept_iff (p0 := p0) hq hq2
  by_cases h1 : r_X7_in p0 0 (f 32 - 1) = 0
  · rw [if_pos h1]
    have := key.mpr (Or.inl h1)
    by_cases hp : p1 = 0
    · rw [if_pos hp, if_pos this]
    · rw [if_neg hp, if_pos this]
  · rw [if_neg h1]
    by_cases h2 : (f 32 - 40) ≤ p0
    · rw [if_pos h2]
      have : ¬ r_X2_isKept (f 32) p0 = 0 := fun w => (key.mp w).elim h1 (fun x => x h2)
      by_cases hp : p1 = 0
      · rw [if_pos hp, if_pos hp, if_neg this]
      · rw [if_neg hp, if_neg hp, if_neg this]
    · rw [if_neg h2]
      have := key.mpr (Or.inr h2)
      by_cases hp : p1 = 0
      · rw [if_pos hp, if_pos this]
      · rw [if_neg hp, if_pos this]
theorem st_far (f : Nat → Int32) (q : Nat) {k : Nat} (h : k < 85) (h9 : k ≠ 9) (h20 : k ≠ 20) (h32 : k ≠ 32) : a_h1_X7_stop f q k = f k := by
  unfold a_h1_X7_stop
  rw [pk_un h9, pk_un h20, th_1, th_0]
  by_cases h1 : f 20 = 1
  · rw [if_pos h1, nt_far _ _ _ h h32]
  · rw [if_neg h1]
theorem st_9 (f : Nat → Int32) (q : Nat) : a_h1_X7_stop f q 9 = 0 := by
  unfold a_h1_X7_stop
  rw [pk_us]
theorem st_20 (f : Nat → Int32) (q : Nat) : a_h1_X7_stop f q 20 = 2 := by
  unfold a_h1_X7_stop
  rw [pk_un (by decide), pk_us]
theorem st_32 (f : Nat → Int32) (q : Nat) : a_h1_X7_stop f q 32 = v_h5_size_X6_stop (f 20) (f 32) := by
  unfold a_h1_X7_stop v_h5_size_X6_stop v_h5_size_X5_stopByCall
  rw [pk_un (by decide), pk_un (by decide), th_1, th_0, th_1, th_0]
  by_cases h1 : f 20 = 1
  · rw [if_pos h1, if_pos h1, nt_32]; rfl
  · rw [if_neg h1, if_neg h1]
theorem st_t (f : Nat → Int32) (q : Nat) {k : Nat} (h : k < 40) : a_h1_X7_stop f q (85 + k) = a_h11_X6_stop (f 0) (f 20) (fun k => f (85 + k)) q k := by
  unfold a_h1_X7_stop a_h11_X6_stop a_h11_X5_stopByCall
  rw [pk_un (by omega), pk_un (by omega), th_1, th_0, th_1, th_0]
  by_cases h1 : f 20 = 1
  · rw [if_pos h1, if_pos h1, nt_t _ _ _ h]; rfl
  · rw [if_neg h1, if_neg h1]
theorem st_c (f : Nat → Int32) (q : Nat) {k : Nat} (h : k < 40) : a_h1_X7_stop f q (125 + k) = a_h12_X6_stop (f 20) (fun k => f (125 + k)) q k := by
  unfold a_h1_X7_stop a_h12_X6_stop a_h12_X5_stopByCall
  rw [pk_un (by omega), pk_un (by omega), th_1, th_0, th_1, th_0]
  by_cases h1 : f 20 = 1
  · rw [if_pos h1, if_pos h1, nt_c _ _ _ h]; rfl
  · rw [if_neg h1, if_neg h1]
theorem le_if {α : Type} {x y : Int32} {A B : α} : (if x ≤ y then A else B) = (if y < x then B else A) := by
  by_cases h : x ≤ y
  · rw [if_pos h, if_neg (Int32.not_lt.mpr h)]
  · rw [if_neg h, if_pos (Int32.not_le.mp h)]
/-- a rule's number -/
theorem ar_in {f : Nat → Int32} {z : Nat} (hz : f 30 = nI z) (hz8 : z ≤ 8) : r_X4_append (f 30) = (if f 30 = 8 then (-1) else f 30 : Int32) := by rw [hz]; exact ap_r hz8
theorem ar_s {α : Type} {f : Nat → Int32} {z : Nat} {A B : α} (hz : f 30 = nI z) (hz8 : z ≤ 8) : (if r_X4_append (f 30) = -1 then A else B) = (if f 30 = 8 then A else B) := by rw [hz]; exact app_m hz8
theorem ar_o {α : Type} {f : Nat → Int32} {z : Nat} {A B : α} (hz : f 30 = nI z) (hz8 : z ≤ 8) : (if r_X7_in (f 30) 0 7 = 0 then A else B) = (if f 30 = 8 then A else B) := by
  rw [hz]
  by_cases h : z = 8
  · subst h; rfl
  · have h1 : ¬ r_X7_in (nI z) 0 7 = 0 := by
      unfold r_X7_in
      rw [if_neg (nI_pos (show z < 2 ^ 31 by omega)), if_neg (show ¬ (7 : Int32) < nI z from nI_nlt (b := z) (a := 7) (by omega) (by decide))]
      decide
    rw [if_neg h1, if_neg (show ¬ nI z = 8 from fun q => h ((nI_eq (a := z) (b := 8) (show z < 2 ^ 31 by omega) (by decide)).mp q))]
theorem ar_k {f : Nat → Int32} {p0 p1 p2 : Int32} {z : Nat} (hz : f 30 = nI z) (hz8 : z ≤ 8) : k_X6_addRule (f 30) p0 p1 p2 = v_h0_thrown_X7_addRule f p0 p1 p2 := by
  unfold k_X6_addRule v_h0_thrown_X7_addRule
  rw [ou_if, ou_if, ou_if, ar_s hz hz8]
theorem ar_r {f : Nat → Int32} {p0 p1 p2 : Int32} {z : Nat} (hz : f 30 = nI z) (hz8 : z ≤ 8) (_ : v_h0_thrown_X7_addRule f p0 p1 p2 = 0) : r_X6_addRule (f 30) p0 p1 p2 = r_X7_addRule f p0 p1 p2 := by
  unfold r_X6_addRule r_X7_addRule
  rw [ou_if, ou_if, ou_if, ar_s hz hz8, ar_in hz hz8, th_1, th_1, th_1, th_2, th_0]
  by_cases h : f 30 = 8
  · simp only [if_pos h]
  · simp only [if_neg h]
theorem ar_f (f : Nat → Int32) (p0 p1 p2 : Int32) (z : Nat) : a_h1_X7_addRule f p0 p1 p2 z = (if r_X7_in p0 0 4 = 0 then f else (if r_X7_in p1 0 70000 = 0 then f else (if r_X7_in p2 1 10000 = 0 then f else (if f 30 = 8 then f else (upd (upd (upd (upd (upd f (53 + z) p0) (61 + z) p1) (69 + z) p2) (77 + z) 0) 30 ((f 30) + 1)))))) := by
  unfold a_h1_X7_addRule
  rw [th_1, th_1, th_1, th_2, th_0]
theorem ar_8 {f : Nat → Int32} {z : Nat} (hz : f 30 = nI z) (hz8 : z ≤ 8) (h : ¬ f 30 = 8) : z < 8 := by
  refine Nat.lt_of_le_of_ne hz8 (fun q => h ?_)
  subst q
  exact hz
theorem ar_far {f : Nat → Int32} {p0 p1 p2 : Int32} {z k : Nat} (hz : f 30 = nI z) (hz8 : z ≤ 8) (h30 : k ≠ 30) (h : k < 53 ∨ 85 ≤ k) : a_h1_X7_addRule f p0 p1 p2 z k = f k := by
  rw [ar_f]
  split
  · rfl
  · split
    · rfl
    · split
      · rfl
      · split
        · rfl
        · rename_i h8
          have := ar_8 hz hz8 h8
          rw [pk_un h30, pk_un (by omega), pk_un (by omega), pk_un (by omega), pk_un (by omega)]
theorem ar_30 {f : Nat → Int32} {p0 p1 p2 : Int32} {z : Nat} (hz : f 30 = nI z) (hz8 : z ≤ 8) : v_h4_size_X6_addRule (f 30) p0 p1 p2 = a_h1_X7_addRule f p0 p1 p2 z 30 := by
  rw [ar_f]
  unfold v_h4_size_X6_addRule v_h0_size_X4_append
  rw [ou_if, ou_if, ou_if, ou_if, ar_o hz hz8]
  by_cases h0 : r_X7_in p0 0 4 = 0
  · rw [if_pos h0, if_pos h0]
  · rw [if_neg h0, if_neg h0]
    by_cases h1 : r_X7_in p1 0 70000 = 0
    · rw [if_pos h1, if_pos h1]
    · rw [if_neg h1, if_neg h1]
      by_cases h2 : r_X7_in p2 1 10000 = 0
      · rw [if_pos h2, if_pos h2]
      · rw [if_neg h2, if_neg h2]
        by_cases h3 : f 30 = 8
        · rw [if_pos h3, if_pos h3]
        · rw [if_neg h3, if_neg h3, pk_us]
theorem ar_53 {f : Nat → Int32} {p0 p1 p2 : Int32} {z k : Nat} (hz : f 30 = nI z) (hz8 : z ≤ 8) (hk : k < 8) : a_h7_X6_addRule (f 30) (fun k => f (53 + k)) p0 p1 p2 z k = a_h1_X7_addRule f p0 p1 p2 z (53 + k) := by
  rw [ar_f]
  unfold a_h7_X6_addRule a_h1_X4_append
  rw [ou_if, ou_if, ou_if, ou_if, ar_o hz hz8]
  by_cases h0 : r_X7_in p0 0 4 = 0
  · rw [if_pos h0, if_pos h0]
  · rw [if_neg h0, if_neg h0]
    by_cases h1 : r_X7_in p1 0 70000 = 0
    · rw [if_pos h1, if_pos h1]
    · rw [if_neg h1, if_neg h1]
      by_cases h2 : r_X7_in p2 1 10000 = 0
      · rw [if_pos h2, if_pos h2]
      · rw [if_neg h2, if_neg h2]
        by_cases h3 : f 30 = 8
        · rw [if_pos h3, if_pos h3]
        · have := ar_8 hz hz8 h3
          rw [if_neg h3, if_neg h3, pk_un (show 53 + k ≠ 30 by omega), pk_un (show 53 + k ≠ 77 + z by omega), pk_un (show 53 + k ≠ 69 + z by omega), pk_un (show 53 + k ≠ 61 + z by omega)]
          by_cases e : k = z
          · subst e; rw [pk_us, pk_us]
          · rw [pk_un e, pk_un (show 53 + k ≠ 53 + z by omega)]
theorem ar_61 {f : Nat → Int32} {p0 p1 p2 : Int32} {z k : Nat} (hz : f 30 = nI z) (hz8 : z ≤ 8) (hk : k < 8) : a_h8_X6_addRule (f 30) (fun k => f (61 + k)) p0 p1 p2 z k = a_h1_X7_addRule f p0 p1 p2 z (61 + k) := by
  rw [ar_f]
  unfold a_h8_X6_addRule a_h2_X4_append
  rw [ou_if, ou_if, ou_if, ou_if, ar_o hz hz8]
  by_cases h0 : r_X7_in p0 0 4 = 0
  · rw [if_pos h0, if_pos h0]
  · rw [if_neg h0, if_neg h0]
    by_cases h1 : r_X7_in p1 0 70000 = 0
    · rw [if_pos h1, if_pos h1]
    · rw [if_neg h1, if_neg h1]
      by_cases h2 : r_X7_in p2 1 10000 = 0
      · rw [if_pos h2, if_pos h2]
      · rw [if_neg h2, if_neg h2]
        by_cases h3 : f 30 = 8
        · rw [if_pos h3, if_pos h3]
        · have := ar_8 hz hz8 h3
          rw [if_neg h3, if_neg h3, pk_un (show 61 + k ≠ 30 by omega), pk_un (show 61 + k ≠ 77 + z by omega), pk_un (show 61 + k ≠ 69 + z by omega)]
          by_cases e : k = z
          · subst e; rw [pk_us, pk_us]
          · rw [pk_un e, pk_un (show 61 + k ≠ 61 + z by omega), pk_un (show 61 + k ≠ 53 + z by omega)]
theorem ar_69 {f : Nat → Int32} {p0 p1 p2 : Int32} {z k : Nat} (hz : f 30 = nI z) (hz8 : z ≤ 8) (hk : k < 8) : a_h9_X6_addRule (f 30) (fun k => f (69 + k)) p0 p1 p2 z k = a_h1_X7_addRule f p0 p1 p2 z (69 + k) := by
  rw [ar_f]
  unfold a_h9_X6_addRule a_h3_X4_append
  rw [ou_if, ou_if, ou_if, ou_if, ar_o hz hz8]
  by_cases h0 : r_X7_in p0 0 4 = 0
  · rw [if_pos h0, if_pos h0]
  · rw [if_neg h0, if_neg h0]
    by_cases h1 : r_X7_in p1 0 70000 = 0
    · rw [if_pos h1, if_pos h1]
    · rw [if_neg h1, if_neg h1]
      by_cases h2 : r_X7_in p2 1 10000 = 0
      · rw [if_pos h2, if_pos h2]
      · rw [if_neg h2, if_neg h2]
        by_cases h3 : f 30 = 8
        · rw [if_pos h3, if_pos h3]
        · have := ar_8 hz hz8 h3
          rw [if_neg h3, if_neg h3, pk_un (show 69 + k ≠ 30 by omega), pk_un (show 69 + k ≠ 77 + z by omega)]
          by_cases e : k = z
          · subst e; rw [pk_us, pk_us]
          · rw [pk_un e, pk_un (show 69 + k ≠ 69 + z by omega), pk_un (show 69 + k ≠ 61 + z by omega), pk_un (show 69 + k ≠ 53 + z by omega)]
end READ
