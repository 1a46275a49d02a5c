section SYS
theorem ou_in {x lo hi : Int32} (h : r_X6_outside x lo hi = 0) : ¬ r_X7_in x lo hi = 0 := by
  unfold r_X6_outside at h
  unfold r_X7_in
  by_cases h1 : x < lo
  · rw [if_pos h1] at h; exact absurd h (by decide)
  · rw [if_neg h1] at h ⊢
    by_cases h2 : x ≤ hi
    · rw [if_neg (Int32.not_lt.mpr h2)]; decide
    · rw [if_neg h2] at h; exact absurd h (by decide)
theorem in_ou {x lo hi : Int32} (h : ¬ r_X7_in x lo hi = 0) : r_X6_outside x lo hi = 0 := by
  obtain ⟨h1, h2⟩ := in_ok h
  unfold r_X6_outside
  rw [if_neg h1, if_pos (Int32.not_lt.mp h2)]
theorem ou_n {x : Int32} {lo hi : Nat} (hhi : hi < 2147483648) (hlo : lo < 2147483648) (h : r_X6_outside x (nI lo) (nI hi) = 0) : x = nI x.toNatClampNeg ∧ lo ≤ x.toNatClampNeg ∧ x.toNatClampNeg ≤ hi := in_n hhi hlo (ou_in h)
theorem gd_ex1 {x : Int32} {N i : Nat} (hx : x = nI N) (hN : N < 2147483647) (hi : i ≤ N) (c : x < nI (i + 1)) : N ≤ i := by
  subst hx
  have := (nI_ltI (a := N) (b := i + 1) (by omega) (by omega)).mp c
  omega
theorem gd_in1 {x : Int32} {N i : Nat} (hx : x = nI N) (hN : N < 2147483647) (hi : i ≤ N) (c : ¬ x < nI (i + 1)) : i < N := by
  subst hx
  exact Nat.lt_of_not_le (fun h => c ((nI_ltI (a := N) (b := i + 1) (by omega) (by omega)).mpr (by omega)))
theorem st_succ {P : Nat → Prop} [DecidablePred P] {N i E : Nat} (he : stF P (N - i) i = E) (h : i < N) (hp : ¬ P i) (hq : P (i + 1)) : E = i + 1 := by
  have e := st_next he h hp
  by_cases h2 : i + 1 < N
  · exact st_hit e h2 hq
  · exact st_top e (by omega)
theorem isG_ar (f : Nat → Int32) (p0 p1 p2 : Int32) {b : Nat} (hb : 16 ≤ b) : (fun k => f (b + k)) = fun k => isG f p0 p1 p2 (b + k) := funext fun k => by
  unfold isG a_h1_X7_becomeIsland
  rw [pk_un (by omega), pk_un (by omega), pk_un (by omega), pk_un (by omega)]
theorem rlG_far (f : Nat → Int32) (p0 : Int32) {k : Nat} (h3 : k ≠ 3) (h7 : k ≠ 7) : f k = rlG f p0 k := by
  unfold rlG
  rw [pk_un h7, pk_un h3]
theorem rlG_ar (f : Nat → Int32) (p0 : Int32) {b : Nat} (hb : 8 ≤ b) : (fun k => f (b + k)) = fun k => rlG f p0 (b + k) := funext fun k => rlG_far f p0 (by omega) (by omega)
theorem rlG_3 (f : Nat → Int32) (p0 : Int32) : v_h0_angle_X1_turn (f 3) p0 = rlG f p0 3 := by
  unfold rlG v_h0_angle_X1_turn
  rw [pk_un (by decide), pk_us, fm_rnd]
theorem rlG_7 (f : Nat → Int32) (p0 : Int32) : (0 : Int32) = rlG f p0 7 := by
  unfold rlG
  rw [pk_us]
theorem hk_eq (f : Nat → Int32) : r_X3_holdsLock (f 19) (f 7) = r_X7_hasLock f := rfl
theorem rl_not {f : Nat → Int32} {p0 : Int32} {B : Nat} (h : Ok f B) : ¬ ¬ r_X7_hasLock (rlG f p0) = 0 := by
  refine fun q => q ?_
  have h19 := h.1.2.2.2.2.2.2.2.2.2.1.1
  unfold r_X7_hasLock
  rw [← rlG_7, ← rlG_far f p0 (show 19 ≠ 3 by decide) (by decide), if_pos]
  rw [lt_ti]
  show (0 : Int) < _
  omega
theorem nar01 {x : Int32} (h : x = 0 ∨ x = 1) : narrow .boolean (.int x) = .int x ∧ fits .boolean (.int x) = true := by
  rcases h with h | h <;> (subst h; exact ⟨rfl, rfl⟩)
theorem Ok.co {f : Nat → Int32} {B : Nat} (h : Ok f B) : f 10 = 0 ∨ f 10 = 1 := h.1.2.2.2.2.2.2.1
theorem ag_isG {c f : Nat → Int32} {p0 p1 p2 : Int32} (h : AgN c f) : AgN c (isG f p0 p1 p2) := by
  have e : ∀ k, 16 ≤ k → isG f p0 p1 p2 k = f k := fun k hk => by
    unfold isG a_h1_X7_becomeIsland
    rw [pk_un (by omega), pk_un (by omega), pk_un (by omega), pk_un (by omega)]
  unfold AgN
  rw [e 30 (by decide)]
  exact fun i hi => by rw [e (77 + i) (by omega)]; exact h i hi
theorem ag_rlG {c f : Nat → Int32} {p0 : Int32} (h : AgN c f) : AgN c (rlG f p0) := by
  unfold AgN
  rw [← rlG_far f p0 (show 30 ≠ 3 by decide) (by decide)]
  exact fun i hi => by rw [← rlG_far f p0 (show 77 + i ≠ 3 by omega) (by omega)]; exact h i hi
end SYS
section SYSROWS
variable {p : Program} {l : Launch} {e : Env} {R : Room} {s : State} {m : MethodId} {args : Array Value} {below : List Frame} {meth : Method} {c : Code} {H : Heap} {locs : List Loc} {cells slots : Nat} {Q : State → Prop}
variable {cc : ByteArray} {pc : Nat} {ls : Array Slot} {rest : List Value} {D : va_G} {tys : List (ClassId × FieldType)} {A : Nat → Prop} {wsW : va_W} {H0 : Heap} {a : Nat}
theorem r_aqS (hexec : p.tables.exec = Jvm.exec) (hb : c.code = cc) (hK : va_K D vwCl tys s) (hP : va_P D vwCl wsW H) (q0 t0 : Nat) {cA : ClassId} {C : String} {n : Nat} {f : Nat → Option Nat} (ha : wsW[q0]? = some (a, .inl (cA, n, .inr (.inr (.inr (.inr f)))))) (ht : tys[t0]? = some (cA, .object C)) {i : Int32} (k : Nat) (hi : i = nI k) (hkn : k < n) (hn : n < 2 ^ 31) {v : Nat} (hv : f k = some v) (hdg : decode cc pc = .ok (.aaload, 1))
    (kk : W p l e R s m args below meth c H locs cells slots Q (F0 m (pc + 1) ls (.ref v :: rest))) : W p l e R s m args below meth c H locs cells slots Q (F0 m pc ls (.int i :: .ref a :: rest)) := by
  subst hi
  refine va_aldq hexec hb hK hP q0 t0 ha ht (vp_in_nI hkn hn) hdg ?_
  rw [nI_clamp (Nat.lt_trans hkn hn), hv]
  exact kk
theorem r_aqN (hexec : p.tables.exec = Jvm.exec) (hb : c.code = cc) (hK : va_K D vwCl tys s) (hP : va_P D vwCl wsW H) (q0 t0 : Nat) {cA : ClassId} {C : String} {n : Nat} {f : Nat → Option Nat} (ha : wsW[q0]? = some (a, .inl (cA, n, .inr (.inr (.inr (.inr f)))))) (ht : tys[t0]? = some (cA, .object C)) {i : Int32} (k : Nat) (hi : i = nI k) (hkn : k < n) (hn : n < 2 ^ 31) (hv : f k = none) (hdg : decode cc pc = .ok (.aaload, 1))
    (kk : W p l e R s m args below meth c H locs cells slots Q (F0 m (pc + 1) ls (.null :: rest))) : W p l e R s m args below meth c H locs cells slots Q (F0 m pc ls (.int i :: .ref a :: rest)) := by
  subst hi
  refine va_aldq hexec hb hK hP q0 t0 ha ht (vp_in_nI hkn hn) hdg ?_
  rw [nI_clamp (Nat.lt_trans hkn hn), hv]
  exact kk
theorem r_astq (hexec : p.tables.exec = Jvm.exec) (hb : c.code = cc) (hK : va_K D vwCl tys s) (hP : va_P D vwCl wsW H) (hD : va_D A wsW) (hS : va_S A H0 H locs) (q0 t0 qk ci : Nat) {cA : ClassId} {r : vw_C} {n v : Nat} {vs : List Value} {f : Nat → Option Nat} (ha : wsW[q0]? = some (a, .inl (cA, n, .inr (.inr (.inr (.inr f)))))) (ht : tys[t0]? = some (cA, .object r.1)) (hv : wsW[qk]? = some (v, .inr (ci, vs))) (hc : vwCl[ci]? = some r) {i : Int32} (k : Nat) (hi : i = nI k) (hkn : k < n) (hn : n < 2 ^ 31) (hdg : decode cc pc = .ok (.aastore, 1))
    (kk : ∀ (H1 : Heap) (locs1 : List Loc), va_P D vwCl (wsW.set q0 (a, .inl (cA, n, .inr (.inr (.inr (.inr (va_up f k (some v)))))))) H1 → va_D A (wsW.set q0 (a, .inl (cA, n, .inr (.inr (.inr (.inr (va_up f k (some v)))))))) → va_S A H0 H1 locs1 → W p l e R s m args below meth c H1 locs1 cells slots Q (F0 m (pc + 1) ls rest)) : W p l e R s m args below meth c H locs cells slots Q (F0 m pc ls (.ref v :: .int i :: .ref a :: rest)) := by
  subst hi
  refine va_astq hexec hb hK hP hD hS q0 t0 qk ci ha ht hv hc (vp_in_nI hkn hn) hdg (fun H1 locs1 h1 h2 h3 => ?_)
  rw [nI_clamp (Nat.lt_trans hkn hn)] at h1 h2
  exact kk H1 locs1 h1 h2 h3
theorem r_newq (hexec : p.tables.exec = Jvm.exec) (hb : c.code = cc) {own C : String} {index : Nat} (hown : s.vm.findClass own = some m.cls) (hclink : (Cond.classLink own index C).before args s = true) (hover : va_AO C s) (hK : va_K D vwCl tys s) (hP : va_P D vwCl wsW H) (hD : va_D A wsW) (hS : va_S A H0 H locs) (hA : ∀ q, H0.size ≤ q → A q) (t0 : Nat) {cA : ClassId} (ht : tys[t0]? = some (cA, .object C))
    {n : Int32} {N' : Nat} (hn : ¬ n < 0) (hN : n.toNatClampNeg = N') (hbytes : N' * 4 ≤ 536870912) (hcells : cells + 1 ≤ R.cells) (hslots : slots + N' ≤ R.slots) (hdg : decode cc pc = .ok (.anewarray index, 3))
    (kk : ∀ (q : Nat) (H1 : Heap), va_P D vwCl (wsW ++ [(q, .inl (cA, N', .inr (.inr (.inr (.inr (fun _ => none))))))]) H1 → va_D A (wsW ++ [(q, .inl (cA, N', .inr (.inr (.inr (.inr (fun _ => none))))))]) → va_S A H0 H1 locs →
      W p l e R s m args below meth c H1 locs (cells + 1) (slots + N') Q (F0 m (pc + 3) ls (.ref q :: rest))) : W p l e R s m args below meth c H locs cells slots Q (F0 m pc ls (.int n :: rest)) := by
  refine va_newq hexec hb hown hclink hover hK hP hD hS hA hn hN hbytes hcells hslots hdg (fun q cB H1 hK1 hP1 hD1 hS1 => ?_)
  have e1 := (hK1.2 tys.length (cB, .object C) (by simp)).2
  have e2 := (hK.2 t0 _ ht).2
  have e3 : cB = cA := ra_eq e1 e2
  subst e3
  exact kk q H1 hP1 hD1 hS1
end SYSROWS
section BAD
theorem ou_iff {x lo hi : Int32} : r_X6_outside x lo hi = 0 ↔ ¬ r_X7_in x lo hi = 0 := ⟨ou_in, in_ou⟩
theorem bi_iff {p0 p1 p2 : Int32} : r_X6_badIsland p0 p1 p2 = 0 ↔ ¬ r_X7_isIsland p0 p1 p2 = 0 := by
  unfold r_X6_badIsland r_X7_isIsland
  by_cases h1 : r_X6_outside p0 1 5000 = 0
  · rw [if_pos h1, if_neg (ou_iff.mp h1)]
    by_cases h2 : r_X6_outside p1 45000 65000 = 0
    · rw [if_pos h2, if_neg (ou_iff.mp h2)]
      by_cases h3 : r_X6_outside p2 0 100 = 0
      · rw [if_pos h3, if_neg (ou_iff.mp h3)]; decide
      · rw [if_neg h3, if_pos (Classical.byContradiction (fun q => h3 (ou_iff.mpr q)))]; decide
    · rw [if_neg h2, if_pos (Classical.byContradiction (fun q => h2 (ou_iff.mpr q)))]; decide
  · rw [if_neg h1, if_pos (Classical.byContradiction (fun q => h1 (ou_iff.mpr q)))]; decide
theorem un_if {P : Prop} [Decidable P] {u : Int32} : (if P then u + 1 else u : Int32) = u + (if P then 1 else 0 : Int32) := by
  by_cases h : P
  · rw [if_pos h, if_pos h]
  · rw [if_neg h, if_neg h, Int32.add_zero]
/-- what the copy holds after i tries -/
def trF (f fb : Nat → Int32) (p0 p1 : Int32) (nn : Nat) : Nat → (Nat → Int32)
  | 0 => fb
  | i + 1 => itf (isG f (p0 + nI i * p1) (f 14) (f 15)) (islE f (p0 + nI i * p1) (f 14) (f 15) nn)
def trC (f cf cb : Nat → Int32) (p0 p1 : Int32) (nn : Nat) : Nat → (Nat → Int32)
  | 0 => cb
  | i + 1 => itc (isG f (p0 + nI i * p1) (f 14) (f 15)) cf (islE f (p0 + nI i * p1) (f 14) (f 15) nn)
def trE (f : Nat → Int32) (en eb : Int64) (p0 p1 : Int32) (nn : Nat) : Nat → Int64
  | 0 => eb
  | i + 1 => itE (isG f (p0 + nI i * p1) (f 14) (f 15)) en (islE f (p0 + nI i * p1) (f 14) (f 15) nn)
end BAD
