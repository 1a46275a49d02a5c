section IT
/-- a tick, of the numbers alone; and of the class's counts -/
def tickN (f : Nat → Int32) : Nat → Int32 := tickS f (f 0).toNatClampNeg (f 30).toNatClampNeg (f 32).toNatClampNeg
def nextN (f c : Nat → Int32) : Nat → Int32 := nextC f c (f 0).toNatClampNeg (f 30).toNatClampNeg
/-- i ticks -/
def itf (f : Nat → Int32) : Nat → (Nat → Int32)
  | 0 => f
  | i + 1 => tickN (itf f i)
def itc (f c : Nat → Int32) : Nat → (Nat → Int32)
  | 0 => c
  | i + 1 => nextN (itf f i) (itc f c i)
def itE (f : Nat → Int32) (E : Int64) : Nat → Int64
  | 0 => E
  | i + 1 => itE f E i + (tickN (itf f i) 9).toInt64
def Ok (f : Nat → Int32) (B : Nat) : Prop := Inv f ∧ ∃ t z q : Nat, f 0 = nI t ∧ t ≤ B ∧ f 30 = nI z ∧ z ≤ 8 ∧ f 32 = nI q ∧ q ≤ B
def AgN (c f : Nat → Int32) : Prop := Agr c f (f 30).toNatClampNeg
theorem Ok.up {f : Nat → Int32} {B B' : Nat} (h : Ok f B) (hB : B ≤ B') : Ok f B' := by
  obtain ⟨hI, t, z, q, h1, h2, h3, h4, h5, h6⟩ := h
  exact ⟨hI, t, z, q, h1, by omega, h3, h4, h5, by omega⟩
theorem tickN_eq {f : Nat → Int32} {t z q : Nat} (ht : f 0 = nI t) (ht2 : t < 2147483648) (hz : f 30 = nI z) (hz8 : z ≤ 8) (hq : f 32 = nI q) (hq2 : q < 2147483648) : tickN f = tickS f t z q := by
  unfold tickN
  rw [ht, hz, hq, nI_clamp ht2, nI_clamp (show z < 2 ^ 31 by omega), nI_clamp hq2]
theorem nextN_eq {f c : Nat → Int32} {t z : Nat} (ht : f 0 = nI t) (ht2 : t < 2147483648) (hz : f 30 = nI z) (hz8 : z ≤ 8) : nextN f c = nextC f c t z := by
  unfold nextN
  rw [ht, hz, nI_clamp ht2, nI_clamp (show z < 2 ^ 31 by omega)]
theorem ok_tick {f : Nat → Int32} {B : Nat} (h : Ok f B) (hB : B < 2147483647) : Ok (tickN f) (B + 1) := by
  obtain ⟨hI, t, z, q, ht, h2, hz, hz8, hq, h6⟩ := h
  rw [tickN_eq ht (by omega) hz hz8 hq (by omega)]
  rcases tk_q (f := f) (t := t) (z := z) (q := q) hz8 hq with e | e
  · exact ⟨tk_inv hI hz8, t + 1, z, q, tk_0 hz8 ht, by omega, by rw [tk_30 hz8]; exact hz, hz8, e, by omega⟩
  · exact ⟨tk_inv hI hz8, t + 1, z, q + 1, tk_0 hz8 ht, by omega, by rw [tk_30 hz8]; exact hz, hz8, e, by omega⟩
theorem ok_it {f : Nat → Int32} {B : Nat} (h : Ok f B) : ∀ i : Nat, B + i < 2147483648 → Ok (itf f i) (B + i) := by
  intro i
  induction i with
  | zero => exact fun _ => h
  | succ i ih => exact fun hB => ok_tick (B := B + i) (ih (by omega)) (by omega)
theorem ag_tick {f c : Nat → Int32} {B : Nat} (h : Ok f B) (hB : B < 2147483647) (ha : AgN c f) : AgN (nextN f c) (tickN f) := by
  obtain ⟨hI, t, z, q, ht, h2, hz, hz8, hq, h6⟩ := h
  have hc : (f 30).toNatClampNeg = z := by rw [hz, nI_clamp (show z < 2 ^ 31 by omega)]
  unfold AgN at ha ⊢
  rw [hc] at ha
  rw [tickN_eq ht (by omega) hz hz8 hq (by omega), nextN_eq ht (by omega) hz hz8, tk_30 hz8, hc]
  exact tk_n hI hz8 ha
theorem ag_it {f c : Nat → Int32} {B : Nat} (h : Ok f B) (ha : AgN c f) : ∀ i : Nat, B + i < 2147483648 → AgN (itc f c i) (itf f i) := by
  intro i
  induction i with
  | zero => exact fun _ => ha
  | succ i ih => exact fun hB => ag_tick (B := B + i) (ok_it h i (by omega)) (by omega) (ih (by omega))
theorem Inv.ld {f : Nat → Int32} (h : Inv f) : ¬ f 13 = 0 := by
  have h13 := h.2.2.2.2.2.2.2.2.1.1
  intro e
  rw [e] at h13
  exact absurd h13 (by decide)
/-- the reference's tick, the class's tick, of the numbers alone -/
theorem mK7 (l : Launch) (D : va_G) (cI cJ cZ cO : ClassId) (h0 h1 h2 h3 h4 h5 : Nat) (me : Int64) (tw : Int32) (f : Nat → Int32) (B : Nat) (ho : Ok f B) (hB : B < 2147483647) :
    MV l yX7_tick wsX7_tick ({ frames := 3, cells := 0, slots := 0, locals := 64 } : Room) D (tysK cI cJ cZ cO) [.ref h0] [(h0, .inr (7, [.ref h1, .long me, .ref h2, .ref h3, .ref h4, .ref h5, .int tw])), (h1, .inl (cI, 165, .inl f))] (fun (_ : Unit) => [(h0, .inr (7, [.ref h1, .long me, .ref h2, .ref h3, .ref h4, .ref h5, .int tw])), (h1, .inl (cI, 165, .inl (tickN f)))]) := by
  obtain ⟨hI, t, z, q, ht, h2', hz, hz8, hq, h6⟩ := ho
  rw [tickN_eq ht (by omega) hz hz8 hq (by omega)]
  exact mT7 l D cI cJ cZ cO h0 h1 h2 h3 h4 h5 me tw f t z q ht (by omega) hz hz8 hq (by omega) hI.ld
theorem mK5 (l : Launch) (D : va_G) (cI cJ cZ cO : ClassId) (h0 h1 h2 h3 h4 h5 h6 h7 h8 h9 h10 h11 h12 : Nat) (f c : Nat → Int32) (en : Int64) (B : Nat) (ho : Ok f B) (hB : B < 2147483647) (ha : AgN c f) :
    MV l yX5_tick wsX5_tick ({ frames := 4, cells := 0, slots := 0, locals := 88 } : Room) D (tysK cI cJ cZ cO) [.ref h0] [(h0, .inr (5, [.int (f 0), .ref h1, .ref h2, .ref h3, .ref h4, .ref h5])), (h1, .inr (1, [.int (f 1), .int (f 2), .int (f 3), .int (f 10), .int (f 11), .int (f 12), .int (f 13), .int (f 14), .int (f 15)])), (h2, .inr (3, [.int (f 4), .int (f 5), .int (f 6), .int (f 16), .int (f 17), .int (f 18), .int (f 19), .int (f 7), .ref h6])), (h3, .inr (0, [.int (f 20), .int (f 9), .int (f 21), .int (f 22), .int (f 23), .int (f 8), .int (f 24), .int (f 25), .int (f 26), .int (f 27), .int (f 28), .int (f 29), .long en, .int (f 31)])), (h4, .inr (4, [.int (f 30), .ref h7, .ref h8, .ref h9, .ref h10])), (h5, .inr (2, [.int (f 32), .ref h11, .ref h12])), (h6, .inl (cI, 20, .inl (fun k => f (33 + k)))), (h7, .inl (cI, 8, .inl (fun k => f (53 + k)))), (h8, .inl (cI, 8, .inl (fun k => f (61 + k)))), (h9, .inl (cI, 8, .inl (fun k => f (69 + k)))), (h10, .inl (cI, 8, .inl c)), (h11, .inl (cI, 40, .inl (fun k => f (85 + k)))), (h12, .inl (cI, 40, .inl (fun k => f (125 + k))))] (fun (_ : Unit) => [(h0, .inr (5, [.int ((tickN f) 0), .ref h1, .ref h2, .ref h3, .ref h4, .ref h5])), (h1, .inr (1, [.int ((tickN f) 1), .int ((tickN f) 2), .int ((tickN f) 3), .int ((tickN f) 10), .int ((tickN f) 11), .int ((tickN f) 12), .int ((tickN f) 13), .int ((tickN f) 14), .int ((tickN f) 15)])), (h2, .inr (3, [.int ((tickN f) 4), .int ((tickN f) 5), .int ((tickN f) 6), .int ((tickN f) 16), .int ((tickN f) 17), .int ((tickN f) 18), .int ((tickN f) 19), .int ((tickN f) 7), .ref h6])), (h3, .inr (0, [.int ((tickN f) 20), .int ((tickN f) 9), .int ((tickN f) 21), .int ((tickN f) 22), .int ((tickN f) 23), .int ((tickN f) 8), .int ((tickN f) 24), .int ((tickN f) 25), .int ((tickN f) 26), .int ((tickN f) 27), .int ((tickN f) 28), .int ((tickN f) 29), .long (en + ((tickN f) 9).toInt64), .int ((tickN f) 31)])), (h4, .inr (4, [.int ((tickN f) 30), .ref h7, .ref h8, .ref h9, .ref h10])), (h5, .inr (2, [.int ((tickN f) 32), .ref h11, .ref h12])), (h6, .inl (cI, 20, .inl (fun k => (tickN f) (33 + k)))), (h7, .inl (cI, 8, .inl (fun k => (tickN f) (53 + k)))), (h8, .inl (cI, 8, .inl (fun k => (tickN f) (61 + k)))), (h9, .inl (cI, 8, .inl (fun k => (tickN f) (69 + k)))), (h10, .inl (cI, 8, .inl (nextN f c))), (h11, .inl (cI, 40, .inl (fun k => (tickN f) (85 + k)))), (h12, .inl (cI, 40, .inl (fun k => (tickN f) (125 + k))))]) := by
  obtain ⟨hI, t, z, q, ht, o2, hz, hz8, hq, o6⟩ := ho
  have hc : (f 30).toNatClampNeg = z := by rw [hz, nI_clamp (show z < 2 ^ 31 by omega)]
  unfold AgN at ha
  rw [hc] at ha
  rw [tickN_eq ht (by omega) hz hz8 hq (by omega), nextN_eq ht (by omega) hz hz8]
  exact mT5 l D cI cJ cZ cO (fun k => [h0, h1, h2, h3, h4, h5, h6, h7, h8, h9, h10, h11, h12].getD k 0) f c en t z q hI ha ht (by omega) hz hz8 hq (by omega)
/-- where a run of ticks stops: the first i with P, but not behind i + n -/
def stF (P : Nat → Prop) [DecidablePred P] : Nat → Nat → Nat
  | 0, i => i
  | n + 1, i => if P i then i else stF P n (i + 1)
theorem st_top {P : Nat → Prop} [DecidablePred P] {N i E : Nat} (he : stF P (N - i) i = E) (h : N ≤ i) : E = i := by
  rw [show N - i = 0 by omega] at he
  exact he.symm
theorem st_hit {P : Nat → Prop} [DecidablePred P] {N i E : Nat} (he : stF P (N - i) i = E) (h : i < N) (hp : P i) : E = i := by
  rw [show N - i = (N - (i + 1)) + 1 by omega] at he
  unfold stF at he
  rw [if_pos hp] at he
  exact he.symm
theorem st_next {P : Nat → Prop} [DecidablePred P] {N i E : Nat} (he : stF P (N - i) i = E) (h : i < N) (hp : ¬ P i) : stF P (N - (i + 1)) (i + 1) = E := by
  rw [show N - i = (N - (i + 1)) + 1 by omega] at he
  rw [stF, if_neg hp] at he
  exact he
theorem st_le {P : Nat → Prop} [DecidablePred P] : ∀ n i : Nat, stF P n i ≤ i + n := by
  intro n
  induction n with
  | zero => intro i; exact Nat.le_refl _
  | succ n ih =>
    intro i
    unfold stF
    split
    · omega
    · have := ih (i + 1); omega
/-- the copy's numbers in an island, and when its inverter stops being RUNNING -/
def isG (f : Nat → Int32) (p0 p1 p2 : Int32) : Nat → Int32 := upd (a_h1_X7_becomeIsland f p0 p1 p2) 10 0
def islE (f : Nat → Int32) (p0 p1 p2 : Int32) (n : Nat) : Nat := stF (fun j => ¬ (itf (isG f p0 p1 p2) j) 20 = 1) n 0
/-- what a copy of a row by hand makes -/
def cpN (g f : Nat → Int32) : Nat → (Nat → Int32)
  | 0 => g
  | i + 1 => upd (cpN g f i) i (f i)
theorem cpN_at (g f : Nat → Int32) (n k : Nat) : cpN g f n k = if k < n then f k else g k := by
  induction n with
  | zero => simp [cpN]
  | succ n ih =>
    show upd (cpN g f n) n (f n) k = _
    by_cases h : k = n
    · subst h; rw [pk_us, if_pos (by omega)]
    · rw [pk_un h, ih]
      by_cases h2 : k < n
      · rw [if_pos h2, if_pos (by omega)]
      · rw [if_neg h2, if_neg (by omega)]
/-- a number that is in a range, as a count -/
theorem in_n {x : Int32} {lo hi : Nat} (hhi : hi < 2147483648) (hlo : lo < 2147483648) (h : ¬ r_X7_in x (nI lo) (nI hi) = 0) : x = nI x.toNatClampNeg ∧ lo ≤ x.toNatClampNeg ∧ x.toNatClampNeg ≤ hi := by
  obtain ⟨h1, h2⟩ := in_ok h
  have hx : ¬ x < 0 := by
    rw [lt_ti] at h1 ⊢
    rw [nI_toInt hlo] at h1
    show ¬ x.toInt < (0 : Int)
    omega
  obtain ⟨j, hj, rfl⟩ := nI_of hx
  rw [nI_clamp hj]
  refine ⟨rfl, Nat.le_of_not_lt (fun q => h1 (nI_lt q hlo)), Nat.le_of_not_lt (fun q => h2 (nI_lt q hj))⟩
end IT
