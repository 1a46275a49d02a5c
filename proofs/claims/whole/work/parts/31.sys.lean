section WR
section
variable {l : Launch} {y : MethodName} {ws : List Cond} {rm : Room} {D : va_G} {tys : List (ClassId × FieldType)} {av : List Value} {w : va_W} {w1 w2 : va_W} {EX : Int32 → String}
theorem MI.to {r r' : Int32} (h : MI l y ws rm D tys av w r w1) (hr : r = r') (hP : ∀ H, va_P D vwCl w1 H → va_P D vwCl w2 H) (hD : ∀ A, va_D A w1 → va_D A w2) : MI l y ws rm D tys av w r' w2 := hr ▸ h.mono hP hD
theorem ML.to {r r' : Int64} (h : ML l y ws rm D tys av w r w1) (hr : r = r') (hP : ∀ H, va_P D vwCl w1 H → va_P D vwCl w2 H) (hD : ∀ A, va_D A w1 → va_D A w2) : ML l y ws rm D tys av w r' w2 := by
  subst hr
  intro sz
  refine MetFree.mono (h sz) (fun _ _ q => q) (fun _ _ _ _ _ q => q) (fun a s o s' _ q => ?_)
  obtain ⟨⟨⟨v, u, h1, h2, h3⟩, h4⟩, h5⟩ := q
  exact ⟨⟨⟨v, u, h1, h2, hP _ h3.1, hD _ h3.2⟩, h4⟩, h5⟩
theorem MXI.to {k k' r r' : Int32} (h : MXI l y ws rm D tys av w k r w1 EX) (hk : k = k') (hr : k' = 0 → r = r') (hP : ∀ H, va_P D vwCl w1 H → va_P D vwCl w2 H) (hD : ∀ A, va_D A w1 → va_D A w2) : MXI l y ws rm D tys av w k' r' w2 EX := by
  subst hk
  intro sz
  refine MetFree.mono (h sz) (fun _ _ q => q) (fun _ _ _ _ _ q => q) (fun a s o s' _ q => ?_)
  rcases q with ⟨⟨⟨v, u, h1, h2, h3⟩, h4⟩, h5⟩ | ⟨q, hq, E, ce, L, ⟨u, g1, g2, g3⟩, g4⟩
  · exact Or.inl ⟨⟨⟨v, u, h1, ⟨h2.1, h2.2.trans (hr h2.1)⟩, hP _ h3.1, hD _ h3.2⟩, h4⟩, h5⟩
  · exact Or.inr ⟨q, hq, E, ce, L, ⟨u, g1, ⟨g2.1, hP _ g2.2.1, hD _ g2.2.2⟩, g3⟩, g4⟩
theorem MXV.to {S S' : Type} {w1 : S → va_W} {w2 : S' → va_W} {k k' : Int32} (h : MXV l y ws rm D tys av w k w1 EX) (hk : k = k') (F : S → S') (hP : ∀ u H, va_P D vwCl (w1 u) H → va_P D vwCl (w2 (F u)) H) (hD : ∀ u A, va_D A (w1 u) → va_D A (w2 (F u))) : MXV l y ws rm D tys av w k' w2 EX := by
  subst hk
  intro sz
  refine MetFree.mono (h sz) (fun _ _ q => q) (fun _ _ _ _ _ q => q) (fun a s o s' _ q => ?_)
  rcases q with ⟨⟨⟨u, h1, h2, h3⟩, h4⟩, h5⟩ | ⟨q, hq, E, ce, L, ⟨u, g1, g2, g3⟩, g4⟩
  · exact Or.inl ⟨⟨⟨F u, h1, h2, hP _ _ h3.1, hD _ _ h3.2⟩, h4⟩, h5⟩
  · exact Or.inr ⟨q, hq, E, ce, L, ⟨F u, g1, ⟨g2.1, hP _ _ g2.2.1, hD _ _ g2.2.2⟩, g3⟩, g4⟩
end
theorem ou_if {α : Type} {x lo hi : Int32} {A B : α} : (if r_X6_outside x lo hi = 0 then A else B) = (if r_X7_in x lo hi = 0 then B else A) := by
  by_cases h : r_X7_in x lo hi = 0
  · rw [if_pos h, if_neg (fun q => ou_in q h)]
  · rw [if_neg h, if_pos (in_ou h)]
theorem bi_if {α : Type} {p0 p1 p2 : Int32} {A B : α} : (if r_X6_badIsland p0 p1 p2 = 0 then A else B) = (if r_X7_isIsland p0 p1 p2 = 0 then B else A) := by
  by_cases h : r_X7_isIsland p0 p1 p2 = 0
  · rw [if_pos h, if_neg (fun q => bi_iff.mp q h)]
  · rw [if_neg h, if_pos (bi_iff.mpr h)]
theorem th_1 {α : Type} {P : Prop} [Decidable P] {X : Int32} {A B : α} : (if (if P then (1 : Int32) else X) = 0 then A else B) = (if P then B else (if X = 0 then A else B)) := by
  by_cases h : P
  · rw [if_pos h, if_pos h, if_neg (by decide)]
  · rw [if_neg h, if_neg h]
theorem th_2 {α : Type} {P : Prop} [Decidable P] {X : Int32} {A B : α} : (if (if P then (2 : Int32) else X) = 0 then A else B) = (if P then B else (if X = 0 then A else B)) := by
  by_cases h : P
  · rw [if_pos h, if_pos h, if_neg (by decide)]
  · rw [if_neg h, if_neg h]
theorem th_0 {α : Type} {A B : α} : (if (0 : Int32) = 0 then A else B) = A := if_pos rfl
theorem ap_r {z : Nat} (hz8 : z ≤ 8) : r_X4_append (nI z) = (if nI z = 8 then (-1) else nI z : Int32) := by
  have hz : z < 2147483648 := by omega
  unfold r_X4_append
  rw [ou_if]
  by_cases h : z = 8
  · subst h; rfl
  · have h1 : ¬ r_X7_in (nI z) 0 7 = 0 := by
      unfold r_X7_in
      rw [if_neg (nI_pos hz), if_neg (show ¬ (7 : Int32) < nI z from nI_nlt (b := z) (a := 7) (by omega) (by decide))]
      decide
    rw [if_neg h1, if_neg (show ¬ nI z = 8 from fun q => h ((nI_eq (a := z) (b := 8) hz (by decide)).mp q))]
theorem app_m {z : Nat} (hz8 : z ≤ 8) {α : Type} {A B : α} : (if r_X4_append (nI z) = -1 then A else B) = (if nI z = 8 then A else B) := by
  rw [ap_r hz8]
  by_cases h : nI z = 8
  · rw [if_pos h, if_pos h, if_pos rfl]
  · rw [if_neg h, if_neg h, if_neg]
    intro q
    have e : (nI z).toInt = (-1 : Int32).toInt := by rw [q]
    rw [nI_toInt (by omega)] at e
    have : ((-1 : Int32)).toInt = -1 := rfl
    omega
theorem jp_f (f : Nat → Int32) (p0 : Int32) : a_h1_X7_jump f p0 = (if r_X7_in p0 (-500000) 500000 = 0 then f else upd f 3 (r_X7_round (f 3 + p0))) := by
  unfold a_h1_X7_jump
  rw [th_1, th_0]
theorem jp_far (f : Nat → Int32) (p0 : Int32) {k : Nat} (h : k ≠ 3) : a_h1_X7_jump f p0 k = f k := by
  rw [jp_f]
  by_cases c : r_X7_in p0 (-500000) 500000 = 0
  · rw [if_pos c]
  · rw [if_neg c, pk_un h]
theorem jp_3 (f : Nat → Int32) (p0 : Int32) : a_h1_X7_jump f p0 3 = v_h1_angle_X6_jump (f 3) p0 := by
  rw [jp_f]
  unfold v_h1_angle_X6_jump v_h0_angle_X1_turn
  rw [ou_if, fm_rnd]
  by_cases c : r_X7_in p0 (-500000) 500000 = 0
  · rw [if_pos c, if_pos c]
  · rw [if_neg c, if_neg c, pk_us]
theorem jp_k (p0 : Int32) : k_X6_jump p0 = v_h0_thrown_X7_jump p0 := by
  unfold k_X6_jump v_h0_thrown_X7_jump
  rw [ou_if]
theorem jp_r (f : Nat → Int32) (p0 : Int32) : r_X6_jump (f 3) p0 = r_X7_jump f p0 := by
  unfold r_X6_jump r_X7_jump v_h0_angle_X1_turn
  rw [ou_if, fm_rnd, th_1, th_0]
end WR
