section KEEP
def Gd (f : Nat → Int32) (B : Nat) : Prop := Ok f B ∧ Cn f B
theorem Gd.up {f : Nat → Int32} {B B' : Nat} (h : Gd f B) (hB : B ≤ B') : Gd f B' := ⟨h.1.up hB, h.2.up hB⟩
theorem gd_upd {f : Nat → Int32} {B : Nat} (k : Nat) {x : Int32} (h : Gd f B) (h0 : k ≠ 0 := by decide) (h9 : k ≠ 9 := by decide) (h30 : k ≠ 30 := by decide) (h32 : k ≠ 32 := by decide) (hp : k < 33 ∨ 53 ≤ k := by decide) (hc : k < 77 ∨ 85 ≤ k := by decide)
    (h2 : k = 2 → rg x 40000 70000 := by exact fun q => absurd q (by decide)) (h3 : k = 3 → rg x 0 999999 := by exact fun q => absurd q (by decide)) (h4 : k = 4 → rg x 0 999999 := by exact fun q => absurd q (by decide)) (h5 : k = 5 → rg x 40000 70000 := by exact fun q => absurd q (by decide))
    (h20 : k = 20 → x = 1 ∨ f 9 = 0 := by exact fun q => absurd q (by decide)) (h10 : k = 10 → x = 0 ∨ x = 1 := by exact fun q => absurd q (by decide)) (h12 : k = 12 → rg x 45000 65000 := by exact fun q => absurd q (by decide)) (h13 : k = 13 → rg x 1 5000 := by exact fun q => absurd q (by decide))
    (h19 : k = 19 → rg x 1 500 := by exact fun q => absurd q (by decide)) (h21 : k = 21 → rg x 1 5000 := by exact fun q => absurd q (by decide)) (h23 : k = 23 → rg x 1 5000 := by exact fun q => absurd q (by decide)) : Gd (upd f k x) B := by
  obtain ⟨⟨⟨i2, i3, i4, i5, i9, i209, i10, i12, i13, i19, i21, i23, ip⟩, t, z, q, e1, e2, e3, e4, e5, e6⟩, hcn⟩ := h
  have R : ∀ (j : Nat) (a b : Int), rg (f j) a b → (k = j → rg x a b) → rg (upd f k x j) a b := fun j a b hj hk => by
    by_cases e : j = k
    · subst e; rw [pk_us]; exact hk rfl
    · rw [pk_un e]; exact hj
  refine ⟨⟨⟨R 2 _ _ i2 h2, R 3 _ _ i3 h3, R 4 _ _ i4 h4, R 5 _ _ i5 h5, ?_, ?_, ?_, R 12 _ _ i12 h12, R 13 _ _ i13 h13, R 19 _ _ i19 h19, R 21 _ _ i21 h21, R 23 _ _ i23 h23, fun j hj => ?_⟩, t, z, q, ?_, e2, ?_, e4, ?_, e6⟩, fun i hi => ?_⟩
  · rw [pk_un (Ne.symm h9)]; exact i9
  · rw [pk_un (Ne.symm h9)]
    by_cases e : 20 = k
    · subst e; rw [pk_us]; exact h20 rfl
    · rw [pk_un e]; exact i209
  · by_cases e : 10 = k
    · subst e; rw [pk_us]; exact h10 rfl
    · rw [pk_un e]; exact i10
  · rw [pk_un (by omega)]; exact ip j hj
  · rw [pk_un (Ne.symm h0)]; exact e1
  · rw [pk_un (Ne.symm h30)]; exact e3
  · rw [pk_un (Ne.symm h32)]; exact e5
  · rw [pk_un (Ne.symm h30), e3, nI_clamp (show z < 2 ^ 31 by omega)] at hi
    rw [pk_un (by omega)]
    exact hcn i (by rw [e3, nI_clamp (show z < 2 ^ 31 by omega)]; exact hi)
theorem ag_upd {c f : Nat → Int32} (k : Nat) {x : Int32} (h : AgN c f) (h30 : k ≠ 30 := by decide) (hc : k < 77 ∨ 85 ≤ k := by decide) {B : Nat} (ho : Ok f B) : AgN c (upd f k x) := by
  obtain ⟨-, t, z, q, e1, e2, e3, e4, e5, e6⟩ := ho
  unfold AgN at h ⊢
  rw [pk_un (Ne.symm h30)]
  rw [e3, nI_clamp (show z < 2 ^ 31 by omega)] at h ⊢
  exact fun i hi => by rw [pk_un (by omega)]; exact h i hi
section
variable {f c : Nat → Int32} {B : Nat} {p0 p1 p2 p3 : Int32}
theorem kp_setGrid (h : Gd f B) (ha : AgN c f) : Gd (a_h1_X7_setGrid f p0 p1) B ∧ AgN c (a_h1_X7_setGrid f p0 p1) := by
  unfold a_h1_X7_setGrid
  rw [th_1, th_1, th_0]
  split
  · exact ⟨h, ha⟩
  · split
    · exact ⟨h, ha⟩
    · rename_i h0 h1
      have g1 := gd_upd (x := p0) 11 h
      exact ⟨gd_upd (x := p1) 12 g1 (h12 := fun _ => rg_in (lo := 45000) (hi := 65000) (by decide) (by decide) h1), ag_upd 12 (ag_upd 11 ha (ho := h.1)) (ho := g1.1)⟩
theorem kp_jump (h : Gd f B) (ha : AgN c f) : Gd (a_h1_X7_jump f p0) B ∧ AgN c (a_h1_X7_jump f p0) := by
  rw [jp_f]
  split
  · exact ⟨h, ha⟩
  · exact ⟨gd_upd 3 h (h3 := fun _ => rnd_rg _), ag_upd 3 ha (ho := h.1)⟩
theorem kp_connect (h : Gd f B) (ha : AgN c f) : Gd (a_h1_X7_connect f p0) B ∧ AgN c (a_h1_X7_connect f p0) := by
  unfold a_h1_X7_connect
  refine ⟨gd_upd 10 h (h10 := fun _ => ?_), ag_upd 10 ha (ho := h.1)⟩
  by_cases e : p0 = 0
  · rw [if_pos e]; exact Or.inl rfl
  · rw [if_neg e]; exact Or.inr rfl
theorem kp_setLoad (h : Gd f B) (ha : AgN c f) : Gd (a_h1_X7_setLoad f p0 p1 p2) B ∧ AgN c (a_h1_X7_setLoad f p0 p1 p2) := by
  unfold a_h1_X7_setLoad
  rw [th_1, th_0]
  split
  · exact ⟨h, ha⟩
  · rename_i h0
    unfold a_h1_X7_becomeIsland
    have g1 := gd_upd (x := p0) 13 h (h13 := fun _ => isl_13 h0)
    have g2 := gd_upd (x := p1) 14 g1
    exact ⟨gd_upd (x := p2) 15 g2, ag_upd 15 (ag_upd 14 (ag_upd 13 ha (ho := h.1)) (ho := g1.1)) (ho := g2.1)⟩
theorem kp_setLoop (h : Gd f B) (ha : AgN c f) : Gd (a_h1_X7_setLoop f p0 p1) B ∧ AgN c (a_h1_X7_setLoop f p0 p1) := by
  unfold a_h1_X7_setLoop
  rw [th_1, th_1, th_0]
  split
  · exact ⟨h, ha⟩
  · split
    · exact ⟨h, ha⟩
    · have g1 := gd_upd (x := p0) 16 h
      exact ⟨gd_upd (x := p1) 17 g1, ag_upd 17 (ag_upd 16 ha (ho := h.1)) (ho := g1.1)⟩
theorem kp_setLock (h : Gd f B) (ha : AgN c f) : Gd (a_h1_X7_setLock f p0 p1) B ∧ AgN c (a_h1_X7_setLock f p0 p1) := by
  unfold a_h1_X7_setLock
  rw [th_1, th_1, th_0]
  split
  · exact ⟨h, ha⟩
  · split
    · exact ⟨h, ha⟩
    · rename_i h0 h1
      have g1 := gd_upd (x := p0) 18 h
      exact ⟨gd_upd (x := p1) 19 g1 (h19 := fun _ => rg_in (lo := 1) (hi := 500) (by decide) (by decide) h1), ag_upd 19 (ag_upd 18 ha (ho := h.1)) (ho := g1.1)⟩
theorem kp_setDrift (h : Gd f B) (ha : AgN c f) : Gd (a_h1_X7_setDrift f p0 p1) B ∧ AgN c (a_h1_X7_setDrift f p0 p1) := by
  unfold a_h1_X7_setDrift
  rw [th_1, th_1, th_0]
  split
  · exact ⟨h, ha⟩
  · split
    · exact ⟨h, ha⟩
    · have g1 := gd_upd (x := p0) 28 h
      exact ⟨gd_upd (x := p1) 29 g1, ag_upd 29 (ag_upd 28 ha (ho := h.1)) (ho := g1.1)⟩
theorem kp_advance (h : Gd f B) (ha : AgN c f) (hB : B + 2000 < 2147483647) : Gd (a_h1_X7_advance f p0) (B + 2000) ∧ AgN (if r_X6_outside p0 1 2000 = 0 then itc f c p0.toNatClampNeg else c) (a_h1_X7_advance f p0) := by
  unfold a_h1_X7_advance
  rw [ou_if]
  by_cases c0 : r_X7_in p0 1 2000 = 0
  · rw [if_pos c0, if_pos c0]
    exact ⟨h.up (by omega), ha⟩
  · rw [if_neg c0, if_neg c0]
    obtain ⟨-, h1, h2⟩ := in_n (lo := 1) (hi := 2000) (by decide) (by decide) c0
    exact ⟨⟨(ok_it h.1 _ (by omega)).up (by omega), (cn_it h.1 h.2 _ (by omega)).up (by omega)⟩, ag_it h.1 ha _ (by omega)⟩
theorem kp_start (h : Gd f B) (ha : AgN c f) : Gd (a_h1_X7_start f) B ∧ AgN c (a_h1_X7_start f) := by
  unfold a_h1_X7_start
  rw [th_1, th_0]
  split
  · rename_i e
    have h9 : f 9 = 0 := h.1.1.2.2.2.2.2.1.resolve_left (fun q => by rw [q] at e; exact absurd e (by decide))
    have g1 := gd_upd (x := 0) 20 h (h20 := fun _ => Or.inr h9)
    exact ⟨gd_upd (x := 0) 8 g1, ag_upd 8 (ag_upd 20 ha (ho := h.1)) (ho := g1.1)⟩
  · exact ⟨h, ha⟩
end
end KEEP
