section TRY
section
variable {l : Launch} {y : MethodName} {ws : List Cond} {rm : Room} {D : va_G} {tys : List (ClassId × FieldType)} {av : List Value} {w : va_W} {w1 w2 : va_W}
theorem MI.mono {r : Int32} (h : MI l y ws rm D tys av w r w1) (hP : ∀ H, va_P D vwCl w1 H → va_P D vwCl w2 H) (hD : ∀ A, va_D A w1 → va_D A w2) : MI l y ws rm D tys av w r w2 := by
  intro sz
  refine MetFree.mono (h sz) (fun _ _ q => q) (fun _ _ _ _ _ q => q) (fun a s o s' _ q => ?_)
  obtain ⟨⟨⟨v, u, h1, h2, h3⟩, h4⟩, h5⟩ := q
  exact ⟨⟨⟨v, u, h1, h2, hP _ h3.1, hD _ h3.2⟩, h4⟩, h5⟩
end
/-- the row put back is the one that was put aside -/
theorem mPB (l : Launch) (D : va_G) (cI cJ cZ cO : ClassId) (h0 h1 h2 h3 h4 h5 : Nat) (me : Int64) (tw : Int32) (f as f0 : Nat → Int32) (hpb : ∀ k, k < 165 → as k = f0 k) :
    MV l yX7_putBack wsX7_putBack ({ frames := 0, cells := 0, slots := 0, locals := 0 } : Room) D (tysK cI cJ cZ cO) [.ref h0] [(h0, .inr (7, [.ref h1, .long me, .ref h2, .ref h3, .ref h4, .ref h5, .int tw])), (h1, .inl (cI, 165, .inl f)), (h2, .inl (cI, 165, .inl as))] (fun (_ : Unit) => [(h0, .inr (7, [.ref h1, .long me, .ref h2, .ref h3, .ref h4, .ref h5, .int tw])), (h1, .inl (cI, 165, .inl f0)), (h2, .inl (cI, 165, .inl as))]) := by
  refine (mX7_putBack l D cI cJ cZ cO h0 h1 h2 h3 h4 h5 me tw f as).mono id (fun _ H hP => ?_) (fun _ A hD => D_addr (by rfl) hD)
  exact P_congr hP 1 rfl (fun k hk => by
    show cpN f as 165 k = f0 k
    rw [cpN_at, if_pos hk, hpb k hk])
theorem pa_at (f as : Nat → Int32) : ∀ k, k < 165 → a_h2_X7_putAside f as k = f k := fun k hk => by
  show cpN as f 165 k = f k
  rw [cpN_at, if_pos hk]
theorem rg_in {x : Int32} {lo hi : Nat} (hlo : lo < 2147483648) (hhi : hi < 2147483648) (h : ¬ r_X7_in x (nI lo) (nI hi) = 0) : rg x lo hi := by
  obtain ⟨h1, h2⟩ := in_ok h
  rw [lt_ti, nI_toInt hlo] at h1
  rw [lt_ti, nI_toInt hhi] at h2
  exact ⟨by omega, by omega⟩
theorem ok_set {f g : Nat → Int32} {B : Nat} (h : Ok f B) (hI : Inv g) (h0 : g 0 = f 0) (h30 : g 30 = f 30) (h32 : g 32 = f 32) : Ok g B := by
  obtain ⟨-, t, z, q, e1, e2, e3, e4, e5, e6⟩ := h
  exact ⟨hI, t, z, q, h0.trans e1, e2, h30.trans e3, e4, h32.trans e5, e6⟩
theorem ok_isG {f : Nat → Int32} {p0 p1 p2 : Int32} {B : Nat} (h : Ok f B) (hp : rg p0 1 5000) : Ok (isG f p0 p1 p2) B := by
  obtain ⟨i2, i3, i4, i5, i9, i209, i10, i12, i13, i19, i21, i23, ip⟩ := h.1
  refine ok_set h ⟨i2, i3, i4, i5, i9, i209, Or.inl rfl, i12, hp, i19, i21, i23, fun k hk => ?_⟩ rfl rfl rfl
  have e : isG f p0 p1 p2 (33 + k) = f (33 + k) := by
    unfold isG a_h1_X7_becomeIsland
    rw [pk_un (by omega), pk_un (by omega), pk_un (by omega), pk_un (by omega)]
  rw [e]; exact ip k hk
theorem isl_13 {p0 p1 p2 : Int32} (h : ¬ r_X7_isIsland p0 p1 p2 = 0) : rg p0 1 5000 := by
  unfold r_X7_isIsland at h
  by_cases c : r_X7_in p0 1 5000 = 0
  · rw [if_pos c] at h; exact absurd rfl h
  · exact rg_in (lo := 1) (hi := 5000) (by decide) (by decide) c
/-- a row whose loop must lock anew -/
def rlG (f : Nat → Int32) (p0 : Int32) : Nat → Int32 := upd (upd f 3 (r_X7_round (f 3 + p0))) 7 0
def rlE (f : Nat → Int32) (p0 : Int32) (n : Nat) : Nat := stF (fun j => ¬ r_X7_hasLock (itf (rlG f p0) j) = 0) n 0
theorem ok_rlG {f : Nat → Int32} {p0 : Int32} {B : Nat} (h : Ok f B) : Ok (rlG f p0) B := by
  obtain ⟨i2, i3, i4, i5, i9, i209, i10, i12, i13, i19, i21, i23, ip⟩ := h.1
  have e : ∀ k, k ≠ 3 → k ≠ 7 → rlG f p0 k = f k := fun k h3 h7 => by
    unfold rlG
    rw [pk_un h7, pk_un h3]
  have e3 : rlG f p0 3 = r_X7_round (f 3 + p0) := by
    unfold rlG
    rw [pk_un (by decide), pk_us]
  refine ok_set h ⟨?_, ?_, ?_, ?_, ?_, ?_, ?_, ?_, ?_, ?_, ?_, ?_, fun k hk => ?_⟩ (e 0 (by decide) (by decide)) (e 30 (by decide) (by decide)) (e 32 (by decide) (by decide))
  · rw [e 2 (by decide) (by decide)]; exact i2
  · rw [e3]; exact rnd_rg _
  · rw [e 4 (by decide) (by decide)]; exact i4
  · rw [e 5 (by decide) (by decide)]; exact i5
  · rw [e 9 (by decide) (by decide)]; exact i9
  · rw [e 9 (by decide) (by decide), e 20 (by decide) (by decide)]; exact i209
  · rw [e 10 (by decide) (by decide)]; exact i10
  · rw [e 12 (by decide) (by decide)]; exact i12
  · rw [e 13 (by decide) (by decide)]; exact i13
  · rw [e 19 (by decide) (by decide)]; exact i19
  · rw [e 21 (by decide) (by decide)]; exact i21
  · rw [e 23 (by decide) (by decide)]; exact i23
  · rw [e (33 + k) (by omega) (by omega)]; exact ip k hk
/-- what stands aside after i tries -/
def asN (f as : Nat → Int32) : Nat → (Nat → Int32)
  | 0 => as
  | i + 1 => a_h2_X7_putAside f (asN f as i)
/-- what a try of an island answers -/
def tiR (f : Nat → Int32) (p0 p1 p2 : Int32) (nn : Nat) : Int32 := (if ((itf (isG f p0 p1 p2) (islE f p0 p1 p2 nn)) 20) = 1 then (-1) else (nI (islE f p0 p1 p2 nn)) : Int32)
/-- how many of the first i loads went undetected -/
def unN (f : Nat → Int32) (p0 p1 : Int32) (nn : Nat) : Nat → Int32
  | 0 => 0
  | i + 1 => unN f p0 p1 nn i + (if tiR f (p0 + nI i * p1) (f 14) (f 15) nn = (-1) then 1 else 0 : Int32)
/-- a row with another laid into it from b on -/
def cpS (sl f : Nat → Int32) (b : Nat) : Nat → (Nat → Int32)
  | 0 => sl
  | i + 1 => upd (cpS sl f b i) (b + i) (f i)
theorem cpS_at (sl f : Nat → Int32) (b n k : Nat) : cpS sl f b n k = if b ≤ k ∧ k < b + n then f (k - b) else sl k := by
  induction n with
  | zero => rw [if_neg (by omega)]; rfl
  | succ n ih =>
    show upd (cpS sl f b n) (b + n) (f n) k = _
    by_cases h : k = b + n
    · subst h; rw [pk_us, if_pos (by omega)]; congr 1; omega
    · rw [pk_un h, ih]
      by_cases h2 : b ≤ k ∧ k < b + n
      · rw [if_pos h2, if_pos (by omega)]
      · rw [if_neg h2, if_neg (by omega)]
/-- what a copy out of such a row makes -/
def cpR (f sl : Nat → Int32) (b : Nat) : Nat → (Nat → Int32)
  | 0 => f
  | i + 1 => upd (cpR f sl b i) i (sl (b + i))
theorem cpR_at (f sl : Nat → Int32) (b n k : Nat) : cpR f sl b n k = if k < n then sl (b + k) else f k := by
  induction n with
  | zero => simp [cpR]
  | succ n ih =>
    show upd (cpR f sl b n) n (sl (b + n)) k = _
    by_cases h : k = n
    · subst h; rw [pk_us, if_pos (by omega)]
    · rw [pk_un h, ih]
      by_cases h2 : k < n
      · rw [if_pos h2, if_pos (by omega)]
      · rw [if_neg h2, if_neg (by omega)]
def fillB (f : Nat → Int32) (b : Nat) (v : Int32) : Nat → (Nat → Int32)
  | 0 => f
  | i + 1 => upd (fillB f b v i) (b + i) v
theorem ev_ix {x hi : Int32} (h : ¬ r_X7_in x 0 hi = 0) : x = nI x.toNatClampNeg ∧ x.toNatClampNeg < 2147483648 := by
  obtain ⟨j, hj, rfl⟩ := nI_of (in_ok h).1
  rw [nI_clamp hj]
  exact ⟨rfl, hj⟩
theorem sl_ix {x : Int32} {s : Nat} (h : x = nI s) (i : Nat) : 165 * x + nI i = nI (165 * s + i) := by
  subst h
  show nI 165 * nI s + nI i = _
  rw [show nI 165 * nI s = nI (165 * s) from (Int32.ofNat_mul 165 s).symm, nI_add]
theorem un_ok {p0 p1 p2 : Int32} {i : Nat} (h0 : ¬ r_X7_in p0 1 5000 = 0) (h1 : ¬ r_X7_in p1 1 500 = 0) (h2 : ¬ r_X7_in p2 1 10 = 0) (h3 : ¬ 5000 < p0 + (p2 - 1) * p1) (hi : i < p2.toNatClampNeg) : rg (p0 + nI i * p1) 1 5000 := by
  obtain ⟨e0, a0, b0⟩ := in_n (lo := 1) (hi := 5000) (by decide) (by decide) h0
  obtain ⟨e1, a1, b1⟩ := in_n (lo := 1) (hi := 500) (by decide) (by decide) h1
  obtain ⟨e2, a2, b2⟩ := in_n (lo := 1) (hi := 10) (by decide) (by decide) h2
  generalize p0.toNatClampNeg = a at *
  generalize p1.toNatClampNeg = b at *
  generalize p2.toNatClampNeg = m at *
  subst e0; subst e1; subst e2
  have hm : ∀ x y : Nat, nI x * nI y = nI (x * y) := fun x y => (Int32.ofNat_mul x y).symm
  obtain ⟨m, rfl⟩ : ∃ k, m = k + 1 := ⟨m - 1, by omega⟩
  rw [nI_pred, hm, nI_add] at h3
  rw [hm, nI_add]
  have k1 : i * b ≤ m * b := Nat.mul_le_mul_right b (by omega)
  have k2 : m * b ≤ 9 * b := Nat.mul_le_mul_right b (by omega)
  have h4 : a + m * b ≤ 5000 := by
    refine Nat.le_of_not_lt (fun q => h3 ?_)
    exact nI_lt (a := 5000) q (by omega)
  have e := nI_toInt (n := a + i * b) (by omega)
  exact ⟨by rw [e]; omega, by rw [e]; omega⟩
end TRY
