section TICK
theorem MV.mono {S S' : Type} {l : Launch} {y : MethodName} {ws : List Cond} {rm : Room} {D : va_G} {tys : List (ClassId × FieldType)} {av : List Value} {w : va_W} {w1 : S → va_W} {w2 : S' → va_W} (h : MV l y ws rm D tys av w w1) (F : S → S') (hP : ∀ u H, va_P D vwCl (w1 u) H → va_P D vwCl (w2 (F u)) H) (hD : ∀ u A, va_D A (w1 u) → va_D A (w2 (F u))) : MV l y ws rm D tys av w w2 := by
  intro sz
  refine MetFree.mono (h sz) (fun _ _ q => q) (fun _ _ _ _ _ q => q) (fun a s o s' _ q => ?_)
  obtain ⟨⟨⟨u, h1, h2, h3⟩, h4⟩, h5⟩ := q
  exact ⟨⟨⟨F u, h1, trivial, hP u _ h3.1, hD u _ h3.2⟩, h4⟩, h5⟩
/-- the addresses alone say that cells are apart -/
theorem D_addr {A : Nat → Prop} {w w' : va_W} (e : w.map Prod.fst = w'.map Prod.fst) (h : va_D A w) : va_D A w' := by
  have key : ∀ (k : Nat) (q : Nat × va_E), w'[k]? = some q → ∃ p, w[k]? = some p ∧ p.1 = q.1 := by
    intro k q hk
    have h1 : (w'.map Prod.fst)[k]? = some q.1 := by rw [List.getElem?_map, hk]; rfl
    rw [← e, List.getElem?_map] at h1
    cases hp : w[k]? with
    | none => rw [hp] at h1; cases h1
    | some p => rw [hp] at h1; exact ⟨p, rfl, Option.some.inj h1⟩
  refine ⟨fun i j x y hi hj hxy => ?_, fun k q hk => ?_⟩
  · obtain ⟨x0, h1, h2⟩ := key i x hi
    obtain ⟨y0, h3, h4⟩ := key j y hj
    exact h.1 i j x0 y0 h1 h3 (h2.trans (hxy.trans h4.symm))
  · obtain ⟨q0, h1, h2⟩ := key k q hk
    rw [← h2]
    exact h.2 k q0 h1
/-- the state behind the line and the loop -/
def preT (f : Nat → Int32) : Nat → Int32 := a_h1_X7_follow (a_h1_X7_feedLine (upd f 0 (f 0 + 1)))
def midT (g : Nat → Int32) (t z q : Nat) : Nat → Int32 := if g 20 = 1 then a_h1_X7_run g (t + 1) z q else (if g 20 = 0 then a_h1_X7_await g z q else g)
def finT (h : Nat → Int32) (t : Nat) : Nat → Int32 := upd (upd h (33 + (t + 1) % 20) (h 5)) 31 (h 31 + (if h 20 = 1 then 1 else 0 : Int32))
def tickS (f : Nat → Int32) (t z q : Nat) : Nat → Int32 := finT (midT (preT f) t z q) t
theorem fin_one (h : Nat → Int32) (t : Nat) : upd (upd h (33 + (t + 1) % 20) (h 5)) 31 ((upd h (33 + (t + 1) % 20) (h 5) 31) + (if (upd h (33 + (t + 1) % 20) (h 5) 20) = 1 then 1 else 0 : Int32)) = finT h t := by
  unfold finT
  rw [pk_un (show 31 ≠ 33 + (t + 1) % 20 by omega), pk_un (show 20 ≠ 33 + (t + 1) % 20 by omega)]
theorem tick_fin (g : Nat → Int32) (t z q : Nat) : a_h1_X7_tick g (upd g (33 + (t + 1) % 20) (g 5)) (upd (a_h1_X7_await g z q) (33 + (t + 1) % 20) (a_h1_X7_await g z q 5)) (upd (a_h1_X7_run g (t + 1) z q) (33 + (t + 1) % 20) (a_h1_X7_run g (t + 1) z q 5)) = finT (midT g t z q) t := by
  unfold a_h1_X7_tick midT
  by_cases h1 : g 20 = 1
  · rw [if_pos h1, if_pos h1, fin_one]
  · rw [if_neg h1, if_neg h1]
    by_cases h2 : g 20 = 0
    · rw [if_pos h2, if_pos h2, fin_one]
    · rw [if_neg h2, if_neg h2, fin_one]
theorem pre_far (f : Nat → Int32) {k : Nat} (h : 8 ≤ k) : preT f k = f k := by
  unfold preT
  rw [fo_far _ (by omega) (by omega) (by omega) (by omega), fl_far _ (by omega) (by omega) (by omega), pk_un (by omega)]
theorem pre_0 (f : Nat → Int32) : preT f 0 = f 0 + 1 := by
  unfold preT
  rw [fo_far _ (by decide) (by decide) (by decide) (by decide), fl_far _ (by decide) (by decide) (by decide), pk_us]
theorem f0_n (f : Nat → Int32) {k : Nat} (h : k ≠ 0) : upd f 0 (f 0 + 1) k = f k := pk_un h
section PRE
variable {f : Nat → Int32}
theorem pre_1 (hI : Inv f) : preT f 1 = v_h0_voltage_X1_settle (f 10) (f 11) (f 13) (f 9) := by
  obtain ⟨-, -, -, -, h9, -, h10, -, h13, -⟩ := hI
  unfold preT
  rw [fo_far _ (by decide) (by decide) (by decide) (by decide)]
  exact fl_1 (g := upd f 0 (f 0 + 1)) h10 h9 h13
theorem pre_2 (hI : Inv f) : preT f 2 = v_h0_frequency_X1_settle (f 2) (f 10) (f 12) (f 14) (f 15) (f 9) (r_X0_drifted (f 28) (f 29) (f 5)) := by
  obtain ⟨-, -, -, -, h9, -, h10, -⟩ := hI
  unfold preT
  rw [fo_far _ (by decide) (by decide) (by decide) (by decide)]
  exact fl_2 (g := upd f 0 (f 0 + 1)) h10 h9
theorem pre_3 : preT f 3 = v_h0_angle_X1_turn (f 3) (preT f 2) := by
  unfold preT
  rw [fo_far _ (by decide) (by decide) (by decide) (by decide), fo_far _ (by decide) (by decide) (by decide) (by decide)]
  exact fl_3 (upd f 0 (f 0 + 1))
theorem pre_2r (hI : Inv f) : rg (preT f 2) 40000 70000 := by
  obtain ⟨h2, -, -, -, -, -, -, h12, -⟩ := hI
  unfold preT
  rw [fo_far _ (by decide) (by decide) (by decide) (by decide)]
  exact fl_2r (g := upd f 0 (f 0 + 1)) h2 h12
theorem pre_3r : rg (preT f 3) 0 999999 := by
  unfold preT
  rw [fo_far _ (by decide) (by decide) (by decide) (by decide)]
  exact fl_3r (upd f 0 (f 0 + 1))
theorem line_n {k : Nat} (h1 : k ≠ 1) (h2 : k ≠ 2) (h3 : k ≠ 3) (h0 : k ≠ 0) : a_h1_X7_feedLine (upd f 0 (f 0 + 1)) k = f k := by
  rw [fl_far _ h1 h2 h3, pk_un h0]
theorem line_123 {k : Nat} (h4 : k ≠ 4) (h5 : k ≠ 5) (h6 : k ≠ 6) (h7 : k ≠ 7) : a_h1_X7_feedLine (upd f 0 (f 0 + 1)) k = preT f k := (fo_far _ h4 h5 h6 h7).symm
theorem pre_4 (hI : Inv f) : preT f 4 = v_h0_angle_X3_follow (f 4) (f 5) (f 16) (v_h0_angle_X1_turn (f 3) (preT f 2)) (preT f 1) := by
  have := fo_4 (g := a_h1_X7_feedLine (upd f 0 (f 0 + 1))) (fl_3r _) (by rw [line_n (by decide) (by decide) (by decide) (by decide)]; exact hI.2.2.1) (by rw [line_n (by decide) (by decide) (by decide) (by decide)]; exact hI.2.2.2.1)
  rw [line_n (k := 4) (by decide) (by decide) (by decide) (by decide), line_n (k := 5) (by decide) (by decide) (by decide) (by decide), line_n (k := 16) (by decide) (by decide) (by decide) (by decide), line_123 (k := 3) (by decide) (by decide) (by decide) (by decide), line_123 (k := 1) (by decide) (by decide) (by decide) (by decide), pre_3] at this
  exact this
theorem pre_5 (hI : Inv f) : preT f 5 = v_h0_frequency_X3_follow (f 4) (f 5) (f 17) (v_h0_angle_X1_turn (f 3) (preT f 2)) (preT f 1) := by
  have := fo_5 (g := a_h1_X7_feedLine (upd f 0 (f 0 + 1))) (fl_3r _) (by rw [line_n (by decide) (by decide) (by decide) (by decide)]; exact hI.2.2.1) (by rw [line_n (by decide) (by decide) (by decide) (by decide)]; exact hI.2.2.2.1)
  rw [line_n (k := 4) (by decide) (by decide) (by decide) (by decide), line_n (k := 5) (by decide) (by decide) (by decide) (by decide), line_n (k := 17) (by decide) (by decide) (by decide) (by decide), line_123 (k := 3) (by decide) (by decide) (by decide) (by decide), line_123 (k := 1) (by decide) (by decide) (by decide) (by decide), pre_3] at this
  exact this
theorem pre_6 (hI : Inv f) : preT f 6 = v_h0_error_X3_follow (f 4) (f 5) (v_h0_angle_X1_turn (f 3) (preT f 2)) (preT f 1) := by
  have := fo_6 (g := a_h1_X7_feedLine (upd f 0 (f 0 + 1))) (fl_3r _) (by rw [line_n (by decide) (by decide) (by decide) (by decide)]; exact hI.2.2.1) (by rw [line_n (by decide) (by decide) (by decide) (by decide)]; exact hI.2.2.2.1)
  rw [line_n (k := 4) (by decide) (by decide) (by decide) (by decide), line_n (k := 5) (by decide) (by decide) (by decide) (by decide), line_123 (k := 3) (by decide) (by decide) (by decide) (by decide), line_123 (k := 1) (by decide) (by decide) (by decide) (by decide), pre_3] at this
  exact this
theorem pre_7 (hI : Inv f) : preT f 7 = v_h0_lockCount_X3_follow (f 4) (f 5) (f 18) (f 7) (v_h0_angle_X1_turn (f 3) (preT f 2)) (preT f 1) := by
  have := fo_7 (g := a_h1_X7_feedLine (upd f 0 (f 0 + 1))) (fl_3r _) (by rw [line_n (by decide) (by decide) (by decide) (by decide)]; exact hI.2.2.1) (by rw [line_n (by decide) (by decide) (by decide) (by decide)]; exact hI.2.2.2.1)
  rw [line_n (k := 4) (by decide) (by decide) (by decide) (by decide), line_n (k := 5) (by decide) (by decide) (by decide) (by decide), line_n (k := 18) (by decide) (by decide) (by decide) (by decide), line_n (k := 7) (by decide) (by decide) (by decide) (by decide), line_123 (k := 3) (by decide) (by decide) (by decide) (by decide), line_123 (k := 1) (by decide) (by decide) (by decide) (by decide), pre_3] at this
  exact this
theorem pre_4r : rg (preT f 4) 0 999999 := fo_4r _
theorem pre_5r (hI : Inv f) : rg (preT f 5) 40000 70000 := fo_5r (by rw [line_n (by decide) (by decide) (by decide) (by decide)]; exact hI.2.2.2.1)
theorem pre_pr (hI : Inv f) : ∀ k, k < 20 → rg (preT f (33 + k)) 40000 70000 := fun k hk => by
  rw [pre_far f (by omega)]
  exact hI.2.2.2.2.2.2.2.2.2.2.2.2 k hk
theorem pre_ag {c : Nat → Int32} {z : Nat} (ha : Agr c f z) : Agr c (preT f) z := fun i hi => by rw [pre_far f (by omega)]; exact ha i hi
theorem pre_fn (b : Nat) (hb : 8 ≤ b) : (fun k => preT f (b + k)) = fun k => f (b + k) := funext fun k => pre_far f (by omega)
end PRE
section MID
variable {g : Nat → Int32} {t z q : Nat}
theorem mid_far (hz : z ≤ 8) {k : Nat} (hk : k < 77) (h1 : k ≠ 8) (h2 : k ≠ 9) (h3 : k ≠ 20) (h4 : k ≠ 32) : midT g t z q k = g k := by
  unfold midT
  split
  · exact run_far hz hk h1 h2 h3 h4
  · split
    · exact aw_far hz hk h1 h2 h3 h4
    · rfl
end MID
theorem fin_far (h : Nat → Int32) (t : Nat) {k : Nat} (h1 : k ≠ 31) (h2 : k < 33 ∨ 53 ≤ k) : finT h t k = h k := by
  have := Nat.mod_lt (t + 1) (show 20 > 0 by decide)
  unfold finT
  rw [pk_un h1, pk_un (by omega)]
theorem tk_far (f : Nat → Int32) (t z q : Nat) (hz : z ≤ 8) {k : Nat} (hk : k < 33 ∨ 53 ≤ k ∧ k < 77) (h1 : k ≠ 8) (h2 : k ≠ 9) (h3 : k ≠ 20) (h4 : k ≠ 32) (h5 : k ≠ 31) : tickS f t z q k = preT f k := by
  unfold tickS
  rw [fin_far _ _ h5 (by omega), mid_far hz (by omega) h1 h2 h3 h4]
/-- the reference's tick -/
theorem mT7 (l : Launch) (D : va_G) (cI cJ cZ cO : ClassId) (h0 h1 h2 h3 h4 h5 : Nat) (me : Int64) (tw : Int32) (f : Nat → Int32) (t z q : Nat) (ht : f 0 = nI t) (ht2 : t < 2147483647) (hz : f 30 = nI z) (hz8 : z ≤ 8) (hq : f 32 = nI q) (hq2 : q < 2147483648) (hld : ¬ f 13 = 0) :
    MV l yX7_tick wsX7_tick ({ frames := 3, cells := 0, slots := 0, locals := 64 } : Room) D (tysK cI cJ cZ cO) [.ref h0] [(h0, .inr (7, [.ref h1, .long me, .ref h2, .ref h3, .ref h4, .ref h5, .int tw])), (h1, .inl (cI, 165, .inl f))] (fun (_ : Unit) => [(h0, .inr (7, [.ref h1, .long me, .ref h2, .ref h3, .ref h4, .ref h5, .int tw])), (h1, .inl (cI, 165, .inl (tickS f t z q)))]) := by
  have k0 : preT f 0 = nI (t + 1) := by rw [pre_0, ht]; exact nI_1 t
  have M := mX7_tick l D cI cJ cZ cO h0 h1 h2 h3 h4 h5 me tw f t z q _ _ (preT f) _ _ _ _ _ _ _ _ ht ht2 hz hz8 hq hq2 hld rfl rfl rfl rfl k0 rfl (by rw [pre_far f (by decide)]; exact hz) (by rw [pre_far f (by decide)]; exact hq) rfl rfl (by rw [aw_far hz8 (by decide) (by decide) (by decide) (by decide) (by decide)]; exact k0) rfl rfl rfl (by rw [run_far hz8 (by decide) (by decide) (by decide) (by decide) (by decide)]; exact k0) rfl
  rw [tick_fin] at M
  exact M
end TICK
