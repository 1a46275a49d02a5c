section KEEP2
variable {f c : Nat → Int32} {B : Nat} {p0 p1 p2 p3 : Int32}
theorem kp_setWindow (h : Gd f B) (ha : AgN c f) : Gd (a_h1_X7_setWindow f p0 p1 p2 p3) B ∧ AgN c (a_h1_X7_setWindow f p0 p1 p2 p3) := by
  unfold a_h1_X7_setWindow
  have g1 := gd_upd (x := p0) 24 h
  have g2 := gd_upd (x := p1) 25 g1
  have g3 := gd_upd (x := p2) 26 g2
  have a3 := ag_upd (x := p2) 26 (ag_upd (x := p1) 25 (ag_upd (x := p0) 24 ha (ho := h.1)) (ho := g1.1)) (ho := g2.1)
  generalize (if r_X7_in p0 0 400 = 0 then 0 else (if r_X7_in p1 p0 400 = 0 then 0 else (if r_X7_in p2 40000 70000 = 0 then 0 else (if r_X7_in p3 p2 70000 = 0 then 0 else 1 : Int32) : Int32) : Int32) : Int32) = X
  by_cases e : X = 0
  · rw [if_pos e]; exact ⟨h, ha⟩
  · rw [if_neg e]; exact ⟨gd_upd (x := p3) 27 g3, ag_upd 27 a3 (ho := g3.1)⟩
theorem kp_setPower (h : Gd f B) (ha : AgN c f) : Gd (a_h1_X7_setPower f p0 p1 p2) B ∧ AgN c (a_h1_X7_setPower f p0 p1 p2) := by
  unfold a_h1_X7_setPower
  rw [th_1, th_1, th_1, th_0]
  split
  · exact ⟨h, ha⟩
  · split
    · exact ⟨h, ha⟩
    · split
      · exact ⟨h, ha⟩
      · rename_i h0 h1 h2
        have g1 := gd_upd (x := p0) 22 h
        have g2 := gd_upd (x := p1) 23 g1 (h23 := fun _ => rg_in (lo := 1) (hi := 5000) (by decide) (by decide) h1)
        exact ⟨gd_upd (x := p2) 21 g2 (h21 := fun _ => rg_in (lo := 1) (hi := 5000) (by decide) (by decide) h2), ag_upd 21 (ag_upd 23 (ag_upd 22 ha (ho := h.1)) (ho := g1.1)) (ho := g2.1)⟩
theorem in_upd {g : Nat → Int32} (hI : Inv f) (e : ∀ k, k < 53 → k ≠ 30 → k ≠ 32 → g k = f k) : Inv g := by
  obtain ⟨i2, i3, i4, i5, i9, i209, i10, i12, i13, i19, i21, i23, ip⟩ := hI
  refine ⟨?_, ?_, ?_, ?_, ?_, ?_, ?_, ?_, ?_, ?_, ?_, ?_, fun k hk => ?_⟩
  · rw [e 2 (by decide) (by decide) (by decide)]; exact i2
  · rw [e 3 (by decide) (by decide) (by decide)]; exact i3
  · rw [e 4 (by decide) (by decide) (by decide)]; exact i4
  · rw [e 5 (by decide) (by decide) (by decide)]; exact i5
  · rw [e 9 (by decide) (by decide) (by decide)]; exact i9
  · rw [e 9 (by decide) (by decide) (by decide), e 20 (by decide) (by decide) (by decide)]; exact i209
  · rw [e 10 (by decide) (by decide) (by decide)]; exact i10
  · rw [e 12 (by decide) (by decide) (by decide)]; exact i12
  · rw [e 13 (by decide) (by decide) (by decide)]; exact i13
  · rw [e 19 (by decide) (by decide) (by decide)]; exact i19
  · rw [e 21 (by decide) (by decide) (by decide)]; exact i21
  · rw [e 23 (by decide) (by decide) (by decide)]; exact i23
  · rw [e (33 + k) (by omega) (by omega) (by omega)]; exact ip k hk
theorem kp_clearRules (h : Gd f B) : Gd (a_h1_X7_clearRules f) B ∧ AgN c (a_h1_X7_clearRules f) := by
  obtain ⟨⟨hI, t, z, q, e1, e2, e3, e4, e5, e6⟩, hcn⟩ := h
  have e : ∀ k, k ≠ 30 → a_h1_X7_clearRules f k = f k := fun k hk => by unfold a_h1_X7_clearRules; rw [pk_un hk]
  have e0 : (a_h1_X7_clearRules f 30).toNatClampNeg = 0 := by unfold a_h1_X7_clearRules; rw [pk_us]; rfl
  refine ⟨⟨⟨in_upd hI (fun k _ h30 _ => e k h30), t, 0, q, (e 0 (by decide)).trans e1, e2, by unfold a_h1_X7_clearRules; rw [pk_us]; rfl, by omega, (e 32 (by decide)).trans e5, e6⟩, fun i hi => ?_⟩, ?_⟩
  · rw [e0] at hi; omega
  · unfold AgN; rw [e0]; exact fun i hi => absurd hi (by omega)
theorem kp_stop {q : Nat} (hq : f 32 = nI q) (h : Gd f B) (ha : AgN c f) : Gd (a_h1_X7_stop f q) (B + 1) ∧ AgN c (a_h1_X7_stop f q) := by
  obtain ⟨⟨hI, t, z, q', e1, e2, e3, e4, e5, e6⟩, hcn⟩ := h
  have hcl : (f 30).toNatClampNeg = z := by rw [e3, nI_clamp (show z < 2 ^ 31 by omega)]
  have s : ∀ k, k < 85 → k ≠ 9 → k ≠ 20 → k ≠ 32 → a_h1_X7_stop f q k = f k := fun k a b d e => st_far f q a b d e
  have s30 := s 30 (by decide) (by decide) (by decide) (by decide)
  obtain ⟨i2, i3, i4, i5, i9, i209, i10, i12, i13, i19, i21, i23, ip⟩ := hI
  have hz0 : rg (0 : Int32) 0 5000 := ⟨by decide, by decide⟩
  have k32 : ∃ q2 : Nat, a_h1_X7_stop f q 32 = nI q2 ∧ q2 ≤ B + 1 := by
    rw [st_32]
    unfold v_h5_size_X6_stop v_h5_size_X5_stopByCall v_h0_size_X2_append
    rw [th_1, th_0]
    by_cases w : f 20 = 1
    · rw [if_pos w]; exact ⟨q' + 1, by rw [e5, nI_1], by omega⟩
    · rw [if_neg w]; exact ⟨q', e5, by omega⟩
  obtain ⟨q2, k1, k2⟩ := k32
  refine ⟨⟨⟨⟨?_, ?_, ?_, ?_, ?_, ?_, ?_, ?_, ?_, ?_, ?_, ?_, fun k hk => ?_⟩, t, z, q2, ?_, by omega, s30.trans e3, e4, k1, k2⟩, fun i hi => ?_⟩, ?_⟩
  · rw [s 2 (by decide) (by decide) (by decide) (by decide)]; exact i2
  · rw [s 3 (by decide) (by decide) (by decide) (by decide)]; exact i3
  · rw [s 4 (by decide) (by decide) (by decide) (by decide)]; exact i4
  · rw [s 5 (by decide) (by decide) (by decide) (by decide)]; exact i5
  · rw [st_9]; exact hz0
  · rw [st_9]; exact Or.inr rfl
  · rw [s 10 (by decide) (by decide) (by decide) (by decide)]; exact i10
  · rw [s 12 (by decide) (by decide) (by decide) (by decide)]; exact i12
  · rw [s 13 (by decide) (by decide) (by decide) (by decide)]; exact i13
  · rw [s 19 (by decide) (by decide) (by decide) (by decide)]; exact i19
  · rw [s 21 (by decide) (by decide) (by decide) (by decide)]; exact i21
  · rw [s 23 (by decide) (by decide) (by decide) (by decide)]; exact i23
  · rw [s (33 + k) (by omega) (by omega) (by omega) (by omega)]; exact ip k hk
  · rw [s 0 (by decide) (by decide) (by decide) (by decide)]; exact e1
  · rw [s30, hcl] at hi
    rw [s (77 + i) (by omega) (by omega) (by omega) (by omega)]
    obtain ⟨n, h1, h2⟩ := hcn i (by rw [hcl]; exact hi)
    exact ⟨n, by omega, h2⟩
  · unfold AgN at ha ⊢
    rw [s30, hcl]
    rw [hcl] at ha
    exact fun i hi => by rw [s (77 + i) (by omega) (by omega) (by omega) (by omega)]; exact ha i hi
theorem kp_addRule {z : Nat} (hz : f 30 = nI z) (hz8 : z ≤ 8) (h : Gd f B) (ha : AgN c f) : Gd (a_h1_X7_addRule f p0 p1 p2 z) B ∧ AgN (a_h10_X6_addRule (f 30) c p0 p1 p2 z) (a_h1_X7_addRule f p0 p1 p2 z) := by
  have hcl : (f 30).toNatClampNeg = z := by rw [hz, nI_clamp (show z < 2 ^ 31 by omega)]
  rw [ar_f]
  unfold a_h10_X6_addRule a_h4_X4_append
  rw [ou_if, ou_if, ou_if, ou_if, ar_o hz hz8]
  by_cases c0 : r_X7_in p0 0 4 = 0
  · rw [if_pos c0, if_pos c0]; exact ⟨h, ha⟩
  · rw [if_neg c0, if_neg c0]
    by_cases c1 : r_X7_in p1 0 70000 = 0
    · rw [if_pos c1, if_pos c1]; exact ⟨h, ha⟩
    · rw [if_neg c1, if_neg c1]
      by_cases c2 : r_X7_in p2 1 10000 = 0
      · rw [if_pos c2, if_pos c2]; exact ⟨h, ha⟩
      · rw [if_neg c2, if_neg c2]
        by_cases c3 : f 30 = 8
        · rw [if_pos c3, if_pos c3]; exact ⟨h, ha⟩
        · have z8 := ar_8 hz hz8 c3
          rw [if_neg c3, if_neg c3]
          obtain ⟨⟨hI, t, z', q, e1, e2, e3, e4, e5, e6⟩, hcn⟩ := h
          have far : ∀ k, k ≠ 30 → (k < 53 ∨ 77 ≤ k ∧ k ≠ 77 + z) → upd (upd (upd (upd (upd f (53 + z) p0) (61 + z) p1) (69 + z) p2) (77 + z) 0) 30 (f 30 + 1) k = f k := fun k a b => by
            rw [pk_un a, pk_un (by omega), pk_un (by omega), pk_un (by omega), pk_un (by omega)]
          have f30 : upd (upd (upd (upd (upd f (53 + z) p0) (61 + z) p1) (69 + z) p2) (77 + z) 0) 30 (f 30 + 1) 30 = nI (z + 1) := by rw [pk_us, hz, nI_1]
          have fz : upd (upd (upd (upd (upd f (53 + z) p0) (61 + z) p1) (69 + z) p2) (77 + z) 0) 30 (f 30 + 1) (77 + z) = 0 := by rw [pk_un (by omega), pk_us]
          generalize upd (upd (upd (upd (upd f (53 + z) p0) (61 + z) p1) (69 + z) p2) (77 + z) 0) 30 (f 30 + 1) = g at far f30 fz ⊢
          have gcl : (g 30).toNatClampNeg = z + 1 := by rw [f30, nI_clamp (show z + 1 < 2 ^ 31 by omega)]
          refine ⟨⟨⟨in_upd hI (fun k a b _ => far k b (Or.inl a)), t, z + 1, q, (far 0 (by decide) (Or.inl (by decide))).trans e1, e2, f30, by omega, (far 32 (by decide) (Or.inl (by decide))).trans e5, e6⟩, fun i hi => ?_⟩, ?_⟩
          · rw [gcl] at hi
            by_cases w : i = z
            · subst w; exact ⟨0, by omega, fz⟩
            · rw [far (77 + i) (by omega) (Or.inr ⟨by omega, by omega⟩)]
              exact hcn i (by rw [hcl]; omega)
          · unfold AgN at ha ⊢
            rw [gcl]
            rw [hcl] at ha
            intro i hi
            by_cases w : i = z
            · subst w; rw [pk_us, fz]
            · rw [pk_un w, far (77 + i) (by omega) (Or.inr ⟨by omega, by omega⟩)]
              exact ha i (by omega)
end KEEP2
