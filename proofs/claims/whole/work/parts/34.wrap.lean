set_option maxHeartbeats 4000000 in
set_option maxRecDepth 100000 in
theorem wrX6_connect (l : Launch) (D : va_G) (cI cJ cZ cO : ClassId) (g0 k0 s0 : Nat) (a : Nat → Nat) (f cf : Nat → Int32) (en : Int64) (p0 : Int32) (hb : p0 = 0 ∨ p0 = 1) (hc : f 10 = 0 ∨ f 10 = 1) : MI l yX6_connect wsX6_connect ({ frames := 0, cells := 0, slots := 0, locals := 0 } : Room) D (tysK cI cJ cZ cO) [.ref g0, .int p0] ((g0, .inr (6, [.ref (a 0), .ref k0, .ref s0])) :: simW cI a f cf en) (r_X7_connect f) ((g0, .inr (6, [.ref (a 0), .ref k0, .ref s0])) :: simW cI a (a_h1_X7_connect f p0) cf en) := by
  have hbe : (if p0 = 0 then 0 else 1 : Int32) = p0 := by rcases hb with h | h <;> (subst h; rfl)
  have hce : (if f 10 = 1 then 1 else 0 : Int32) = f 10 := by rcases hc with h | h <;> (rw [h]; rfl)
  have M := mX6_connect l D cI cJ cZ cO g0 k0 s0 (a 0) (a 1) (a 2) (a 3) (a 4) (a 5) (a 6) (a 7) (a 8) (a 9) (a 10) (a 11) (a 12) (f 0) (f 1) (f 2) (f 3) (f 10) (f 11) (f 12) (f 13) (f 14) (f 15) (f 4) (f 5) (f 6) (f 16) (f 17) (f 18) (f 19) (f 7) (f 20) (f 9) (f 21) (f 22) (f 23) (f 8) (f 24) (f 25) (f 26) (f 27) (f 28) (f 29) en (f 31) (f 30) (f 32) (fun k => f (33 + k)) (fun k => f (53 + k)) (fun k => f (61 + k)) (fun k => f (69 + k)) cf (fun k => f (85 + k)) (fun k => f (125 + k)) p0 (nar01 hb).1 (nar01 hb).2 (nar01 hc).1
  refine M.to (by rw [r_X7_connect, hce]) (fun H hP => ?_) (fun A hD => D_addr (by rfl) hD)
  intro k q1 hk1
  match k, hk1 with
  | 0, hk1 => cases hk1; exact hP 0 _ rfl
  | 1, hk1 => cases hk1; exact at_obj (hP 1 _ rfl) (by (try simp only [a_h1_X7_connect, r_X7_connect, hbe, hce, ou_if, bi_if, th_1, th_2, th_0]) <;> (try generalize r_X7_round (f 3 + p0) = X9) <;> (repeat' split) <;> first | rfl | (simp_all; done))
  | 2, hk1 => cases hk1; exact at_obj (hP 2 _ rfl) (by (try simp only [a_h1_X7_connect, r_X7_connect, hbe, hce, ou_if, bi_if, th_1, th_2, th_0]) <;> (try generalize r_X7_round (f 3 + p0) = X9) <;> (repeat' split) <;> first | rfl | (simp_all; done))
  | 3, hk1 => cases hk1; exact at_obj (hP 3 _ rfl) (by (try simp only [a_h1_X7_connect, r_X7_connect, hbe, hce, ou_if, bi_if, th_1, th_2, th_0]) <;> (try generalize r_X7_round (f 3 + p0) = X9) <;> (repeat' split) <;> first | rfl | (simp_all; done))
  | 4, hk1 => cases hk1; exact at_obj (hP 4 _ rfl) (by (try simp only [a_h1_X7_connect, r_X7_connect, hbe, hce, ou_if, bi_if, th_1, th_2, th_0]) <;> (try generalize r_X7_round (f 3 + p0) = X9) <;> (repeat' split) <;> first | rfl | (simp_all; done))
  | 5, hk1 => cases hk1; exact at_obj (hP 5 _ rfl) (by (try simp only [a_h1_X7_connect, r_X7_connect, hbe, hce, ou_if, bi_if, th_1, th_2, th_0]) <;> (try generalize r_X7_round (f 3 + p0) = X9) <;> (repeat' split) <;> first | rfl | (simp_all; done))
  | 6, hk1 => cases hk1; exact at_obj (hP 6 _ rfl) (by (try simp only [a_h1_X7_connect, r_X7_connect, hbe, hce, ou_if, bi_if, th_1, th_2, th_0]) <;> (try generalize r_X7_round (f 3 + p0) = X9) <;> (repeat' split) <;> first | rfl | (simp_all; done))
  | 7, hk1 => cases hk1; exact at_arr (hP 7 _ rfl) (fun k hk => by (try simp only [a_h1_X7_connect, r_X7_connect, hbe, hce, ou_if, bi_if, th_1, th_2, th_0]) <;> (try generalize r_X7_round (f 3 + p0) = X9) <;> (repeat' split) <;> first | rfl | ((try simp only [upd]) <;> (repeat' split) <;> first | rfl | omega | (exfalso; omega)))
  | 8, hk1 => cases hk1; exact at_arr (hP 8 _ rfl) (fun k hk => by (try simp only [a_h1_X7_connect, r_X7_connect, hbe, hce, ou_if, bi_if, th_1, th_2, th_0]) <;> (try generalize r_X7_round (f 3 + p0) = X9) <;> (repeat' split) <;> first | rfl | ((try simp only [upd]) <;> (repeat' split) <;> first | rfl | omega | (exfalso; omega)))
  | 9, hk1 => cases hk1; exact at_arr (hP 9 _ rfl) (fun k hk => by (try simp only [a_h1_X7_connect, r_X7_connect, hbe, hce, ou_if, bi_if, th_1, th_2, th_0]) <;> (try generalize r_X7_round (f 3 + p0) = X9) <;> (repeat' split) <;> first | rfl | ((try simp only [upd]) <;> (repeat' split) <;> first | rfl | omega | (exfalso; omega)))
  | 10, hk1 => cases hk1; exact at_arr (hP 10 _ rfl) (fun k hk => by (try simp only [a_h1_X7_connect, r_X7_connect, hbe, hce, ou_if, bi_if, th_1, th_2, th_0]) <;> (try generalize r_X7_round (f 3 + p0) = X9) <;> (repeat' split) <;> first | rfl | ((try simp only [upd]) <;> (repeat' split) <;> first | rfl | omega | (exfalso; omega)))
  | 11, hk1 => cases hk1; exact hP 11 _ rfl
  | 12, hk1 => cases hk1; exact at_arr (hP 12 _ rfl) (fun k hk => by (try simp only [a_h1_X7_connect, r_X7_connect, hbe, hce, ou_if, bi_if, th_1, th_2, th_0]) <;> (try generalize r_X7_round (f 3 + p0) = X9) <;> (repeat' split) <;> first | rfl | ((try simp only [upd]) <;> (repeat' split) <;> first | rfl | omega | (exfalso; omega)))
  | 13, hk1 => cases hk1; exact at_arr (hP 13 _ rfl) (fun k hk => by (try simp only [a_h1_X7_connect, r_X7_connect, hbe, hce, ou_if, bi_if, th_1, th_2, th_0]) <;> (try generalize r_X7_round (f 3 + p0) = X9) <;> (repeat' split) <;> first | rfl | ((try simp only [upd]) <;> (repeat' split) <;> first | rfl | omega | (exfalso; omega)))
  | k + 14, hk1 => simp [simW] at hk1

set_option maxHeartbeats 4000000 in
set_option maxRecDepth 100000 in
theorem wrX6_stop (l : Launch) (D : va_G) (cI cJ cZ cO : ClassId) (g0 k0 s0 : Nat) (a : Nat → Nat) (f cf : Nat → Int32) (en : Int64) (q : Nat) (hq : f 32 = nI q) (hq2 : q < 2147483648) : MI l yX6_stop wsX6_stop ({ frames := 3, cells := 0, slots := 0, locals := 66 } : Room) D (tysK cI cJ cZ cO) [.ref g0] ((g0, .inr (6, [.ref (a 0), .ref k0, .ref s0])) :: simW cI a f cf en) (r_X7_stop f) ((g0, .inr (6, [.ref (a 0), .ref k0, .ref s0])) :: simW cI a (a_h1_X7_stop f q) cf en) := by
  have M := mX6_stop l D cI cJ cZ cO g0 k0 s0 (a 0) (a 1) (a 2) (a 3) (a 4) (a 5) (a 6) (a 7) (a 8) (a 9) (a 10) (a 11) (a 12) (f 0) (f 1) (f 2) (f 3) (f 10) (f 11) (f 12) (f 13) (f 14) (f 15) (f 4) (f 5) (f 6) (f 16) (f 17) (f 18) (f 19) (f 7) (f 20) (f 9) (f 21) (f 22) (f 23) (f 8) (f 24) (f 25) (f 26) (f 27) (f 28) (f 29) en (f 31) (f 30) (f 32) (fun k => f (33 + k)) (fun k => f (53 + k)) (fun k => f (61 + k)) (fun k => f (69 + k)) cf (fun k => f (85 + k)) (fun k => f (125 + k)) q hq hq2
  refine M.to (by (try simp only [v_h5_size_X6_stop, a_h11_X6_stop, a_h12_X6_stop, r_X6_stop, a_h1_X7_stop, r_X7_stop, r_X5_stopByCall, ou_if, bi_if, th_1, th_2, th_0]) <;> (try generalize r_X7_round (f 3 + p0) = X9) <;> (repeat' split) <;> first | rfl | (simp_all; done)) (fun H hP => ?_) (fun A hD => D_addr (by rfl) hD)
  intro k q1 hk1
  match k, hk1 with
  | 0, hk1 => cases hk1; exact hP 0 _ rfl
  | 1, hk1 => cases hk1; exact at_obj (hP 1 _ rfl) (by rw [st_far f q (k := 0) (by decide) (by decide) (by decide) (by decide)])
  | 2, hk1 => cases hk1; exact at_obj (hP 2 _ rfl) (by rw [st_far f q (k := 1) (by decide) (by decide) (by decide) (by decide), st_far f q (k := 2) (by decide) (by decide) (by decide) (by decide), st_far f q (k := 3) (by decide) (by decide) (by decide) (by decide), st_far f q (k := 10) (by decide) (by decide) (by decide) (by decide), st_far f q (k := 11) (by decide) (by decide) (by decide) (by decide), st_far f q (k := 12) (by decide) (by decide) (by decide) (by decide), st_far f q (k := 13) (by decide) (by decide) (by decide) (by decide), st_far f q (k := 14) (by decide) (by decide) (by decide) (by decide), st_far f q (k := 15) (by decide) (by decide) (by decide) (by decide)])
  | 3, hk1 => cases hk1; exact at_obj (hP 3 _ rfl) (by rw [st_far f q (k := 4) (by decide) (by decide) (by decide) (by decide), st_far f q (k := 5) (by decide) (by decide) (by decide) (by decide), st_far f q (k := 6) (by decide) (by decide) (by decide) (by decide), st_far f q (k := 16) (by decide) (by decide) (by decide) (by decide), st_far f q (k := 17) (by decide) (by decide) (by decide) (by decide), st_far f q (k := 18) (by decide) (by decide) (by decide) (by decide), st_far f q (k := 19) (by decide) (by decide) (by decide) (by decide), st_far f q (k := 7) (by decide) (by decide) (by decide) (by decide)])
  | 4, hk1 => cases hk1; exact at_obj (hP 4 _ rfl) (by rw [st_far f q (k := 21) (by decide) (by decide) (by decide) (by decide), st_far f q (k := 22) (by decide) (by decide) (by decide) (by decide), st_far f q (k := 23) (by decide) (by decide) (by decide) (by decide), st_far f q (k := 8) (by decide) (by decide) (by decide) (by decide), st_far f q (k := 24) (by decide) (by decide) (by decide) (by decide), st_far f q (k := 25) (by decide) (by decide) (by decide) (by decide), st_far f q (k := 26) (by decide) (by decide) (by decide) (by decide), st_far f q (k := 27) (by decide) (by decide) (by decide) (by decide), st_far f q (k := 28) (by decide) (by decide) (by decide) (by decide), st_far f q (k := 29) (by decide) (by decide) (by decide) (by decide), st_far f q (k := 31) (by decide) (by decide) (by decide) (by decide), st_9, st_20])
  | 5, hk1 => cases hk1; exact at_obj (hP 5 _ rfl) (by rw [st_far f q (k := 30) (by decide) (by decide) (by decide) (by decide)])
  | 6, hk1 => cases hk1; exact at_obj (hP 6 _ rfl) (by rw [st_32])
  | 7, hk1 => cases hk1; exact at_arr (hP 7 _ rfl) (fun k hk => (st_far f q (by omega) (by omega) (by omega) (by omega)).symm)
  | 8, hk1 => cases hk1; exact at_arr (hP 8 _ rfl) (fun k hk => (st_far f q (by omega) (by omega) (by omega) (by omega)).symm)
  | 9, hk1 => cases hk1; exact at_arr (hP 9 _ rfl) (fun k hk => (st_far f q (by omega) (by omega) (by omega) (by omega)).symm)
  | 10, hk1 => cases hk1; exact at_arr (hP 10 _ rfl) (fun k hk => (st_far f q (by omega) (by omega) (by omega) (by omega)).symm)
  | 11, hk1 => cases hk1; exact hP 11 _ rfl
  | 12, hk1 => cases hk1; exact at_arr (hP 12 _ rfl) (fun k hk => (st_t f q hk).symm)
  | 13, hk1 => cases hk1; exact at_arr (hP 13 _ rfl) (fun k hk => (st_c f q hk).symm)
  | k + 14, hk1 => simp [simW] at hk1

set_option maxHeartbeats 4000000 in
set_option maxRecDepth 100000 in
theorem wrX6_addRule (l : Launch) (hlt : l.stackTraces = false) (D : va_G) (cI cJ cZ cO : ClassId) (g0 k0 s0 : Nat) (a : Nat → Nat) (f cf : Nat → Int32) (en : Int64) (p0 : Int32) (p1 : Int32) (p2 : Int32) (z : Nat) (hz : f 30 = nI z) (hz8 : z ≤ 8) : MXI l yX6_addRule wsX6_addRule ({ frames := 6, cells := 1, slots := 6, locals := 82 } : Room) D (tysK cI cJ cZ cO) [.ref g0, .int p0, .int p1, .int p2] ((g0, .inr (6, [.ref (a 0), .ref k0, .ref s0])) :: simW cI a f cf en) (v_h0_thrown_X7_addRule f p0 p1 p2) (r_X7_addRule f p0 p1 p2) ((g0, .inr (6, [.ref (a 0), .ref k0, .ref s0])) :: simW cI a (a_h1_X7_addRule f p0 p1 p2 z) (a_h10_X6_addRule (f 30) cf p0 p1 p2 z) en) (fun k => if k = 1 then eA else eS) := by
  have M := mX6_addRule l hlt D cI cJ cZ cO g0 k0 s0 (a 0) (a 1) (a 2) (a 3) (a 4) (a 5) (a 6) (a 7) (a 8) (a 9) (a 10) (a 11) (a 12) (f 0) (f 1) (f 2) (f 3) (f 10) (f 11) (f 12) (f 13) (f 14) (f 15) (f 4) (f 5) (f 6) (f 16) (f 17) (f 18) (f 19) (f 7) (f 20) (f 9) (f 21) (f 22) (f 23) (f 8) (f 24) (f 25) (f 26) (f 27) (f 28) (f 29) en (f 31) (f 30) (f 32) (fun k => f (33 + k)) (fun k => f (53 + k)) (fun k => f (61 + k)) (fun k => f (69 + k)) cf (fun k => f (85 + k)) (fun k => f (125 + k)) p0 p1 p2 z hz hz8
  refine M.to (ar_k hz hz8) (fun h0 => (ar_r hz hz8 h0)) (fun H hP => ?_) (fun A hD => D_addr (by rfl) hD)
  intro k q1 hk1
  match k, hk1 with
  | 0, hk1 => cases hk1; exact hP 0 _ rfl
  | 1, hk1 => cases hk1; exact at_obj (hP 1 _ rfl) (by rw [ar_far hz hz8 (k := 0) (by decide) (by decide)])
  | 2, hk1 => cases hk1; exact at_obj (hP 2 _ rfl) (by rw [ar_far hz hz8 (k := 1) (by decide) (by decide), ar_far hz hz8 (k := 2) (by decide) (by decide), ar_far hz hz8 (k := 3) (by decide) (by decide), ar_far hz hz8 (k := 10) (by decide) (by decide), ar_far hz hz8 (k := 11) (by decide) (by decide), ar_far hz hz8 (k := 12) (by decide) (by decide), ar_far hz hz8 (k := 13) (by decide) (by decide), ar_far hz hz8 (k := 14) (by decide) (by decide), ar_far hz hz8 (k := 15) (by decide) (by decide)])
  | 3, hk1 => cases hk1; exact at_obj (hP 3 _ rfl) (by rw [ar_far hz hz8 (k := 4) (by decide) (by decide), ar_far hz hz8 (k := 5) (by decide) (by decide), ar_far hz hz8 (k := 6) (by decide) (by decide), ar_far hz hz8 (k := 16) (by decide) (by decide), ar_far hz hz8 (k := 17) (by decide) (by decide), ar_far hz hz8 (k := 18) (by decide) (by decide), ar_far hz hz8 (k := 19) (by decide) (by decide), ar_far hz hz8 (k := 7) (by decide) (by decide)])
  | 4, hk1 => cases hk1; exact at_obj (hP 4 _ rfl) (by rw [ar_far hz hz8 (k := 20) (by decide) (by decide), ar_far hz hz8 (k := 9) (by decide) (by decide), ar_far hz hz8 (k := 21) (by decide) (by decide), ar_far hz hz8 (k := 22) (by decide) (by decide), ar_far hz hz8 (k := 23) (by decide) (by decide), ar_far hz hz8 (k := 8) (by decide) (by decide), ar_far hz hz8 (k := 24) (by decide) (by decide), ar_far hz hz8 (k := 25) (by decide) (by decide), ar_far hz hz8 (k := 26) (by decide) (by decide), ar_far hz hz8 (k := 27) (by decide) (by decide), ar_far hz hz8 (k := 28) (by decide) (by decide), ar_far hz hz8 (k := 29) (by decide) (by decide), ar_far hz hz8 (k := 31) (by decide) (by decide)])
  | 5, hk1 => cases hk1; exact at_obj (hP 5 _ rfl) (by rw [ar_30 hz hz8])
  | 6, hk1 => cases hk1; exact at_obj (hP 6 _ rfl) (by rw [ar_far hz hz8 (k := 32) (by decide) (by decide)])
  | 7, hk1 => cases hk1; exact at_arr (hP 7 _ rfl) (fun k hk => (ar_far hz hz8 (by omega) (by omega)).symm)
  | 8, hk1 => cases hk1; exact at_arr (hP 8 _ rfl) (fun k hk => ar_53 hz hz8 hk)
  | 9, hk1 => cases hk1; exact at_arr (hP 9 _ rfl) (fun k hk => ar_61 hz hz8 hk)
  | 10, hk1 => cases hk1; exact at_arr (hP 10 _ rfl) (fun k hk => ar_69 hz hz8 hk)
  | 11, hk1 => cases hk1; exact hP 11 _ rfl
  | 12, hk1 => cases hk1; exact at_arr (hP 12 _ rfl) (fun k hk => (ar_far hz hz8 (by omega) (by omega)).symm)
  | 13, hk1 => cases hk1; exact at_arr (hP 13 _ rfl) (fun k hk => (ar_far hz hz8 (by omega) (by omega)).symm)
  | k + 14, hk1 => simp [simW] at hk1

set_option maxHeartbeats 4000000 in
set_option maxRecDepth 100000 in
theorem wrX6_measure (l : Launch) (hlt : l.stackTraces = false) (D : va_G) (cI cJ cZ cO : ClassId) (g0 k0 s0 : Nat) (a : Nat → Nat) (f cf : Nat → Int32) (en : Int64) (p0 : Int32) : MXI l yX6_measure wsX6_measure ({ frames := 6, cells := 1, slots := 6, locals := 82 } : Room) D (tysK cI cJ cZ cO) [.ref g0, .int p0] ((g0, .inr (6, [.ref (a 0), .ref k0, .ref s0])) :: simW cI a f cf en) (v_h0_thrown_X7_measure p0) (r_X7_measure f p0) ((g0, .inr (6, [.ref (a 0), .ref k0, .ref s0])) :: simW cI a f cf en) (fun _ => eA) := by
  have M := mX6_measure l hlt D cI cJ cZ cO g0 k0 s0 (a 0) (a 1) (a 2) (a 3) (a 4) (a 5) (a 6) (a 7) (a 8) (a 9) (a 10) (a 11) (a 12) (f 0) (f 1) (f 2) (f 3) (f 10) (f 11) (f 12) (f 13) (f 14) (f 15) (f 4) (f 5) (f 6) (f 16) (f 17) (f 18) (f 19) (f 7) (f 20) (f 9) (f 21) (f 22) (f 23) (f 8) (f 24) (f 25) (f 26) (f 27) (f 28) (f 29) en (f 31) (f 30) (f 32) (fun k => f (33 + k)) (fun k => f (53 + k)) (fun k => f (61 + k)) (fun k => f (69 + k)) cf (fun k => f (85 + k)) (fun k => f (125 + k)) p0
  refine M.to (ms_k p0) (fun h0 => ms_r h0) (fun H hP => ?_) (fun A hD => D_addr (by rfl) hD)
  exact hP

set_option maxHeartbeats 4000000 in
set_option maxRecDepth 100000 in
theorem wrX6_violations (l : Launch) (hlt : l.stackTraces = false) (D : va_G) (cI cJ cZ cO : ClassId) (g0 k0 s0 : Nat) (a : Nat → Nat) (f cf : Nat → Int32) (en : Int64) (p0 : Int32) (z : Nat) (B : Nat) (hz : f 30 = nI z) (hz8 : z ≤ 8) (ha : AgN cf f) (hcn : Cn f B) (hB : B < 2147483648) : MXI l yX6_violations wsX6_violations ({ frames := 6, cells := 1, slots := 6, locals := 82 } : Room) D (tysK cI cJ cZ cO) [.ref g0, .int p0] ((g0, .inr (6, [.ref (a 0), .ref k0, .ref s0])) :: simW cI a f cf en) (v_h0_thrown_X7_violations f p0) (r_X7_violations f p0) ((g0, .inr (6, [.ref (a 0), .ref k0, .ref s0])) :: simW cI a f cf en) (fun _ => eB) := by
  have M := mX6_violations l hlt D cI cJ cZ cO g0 k0 s0 (a 0) (a 1) (a 2) (a 3) (a 4) (a 5) (a 6) (a 7) (a 8) (a 9) (a 10) (a 11) (a 12) (f 0) (f 1) (f 2) (f 3) (f 10) (f 11) (f 12) (f 13) (f 14) (f 15) (f 4) (f 5) (f 6) (f 16) (f 17) (f 18) (f 19) (f 7) (f 20) (f 9) (f 21) (f 22) (f 23) (f 8) (f 24) (f 25) (f 26) (f 27) (f 28) (f 29) en (f 31) (f 30) (f 32) (fun k => f (33 + k)) (fun k => f (53 + k)) (fun k => f (61 + k)) (fun k => f (69 + k)) cf (fun k => f (85 + k)) (fun k => f (125 + k)) p0
  refine M.to (vi_k hz hz8 ha hcn hB) (fun h0 => vi_r hz hz8 ha hcn hB h0) (fun H hP => ?_) (fun A hD => D_addr (by rfl) hD)
  exact hP

set_option maxHeartbeats 4000000 in
set_option maxRecDepth 100000 in
theorem wrX6_event (l : Launch) (hlt : l.stackTraces = false) (D : va_G) (cI cJ cZ cO : ClassId) (g0 k0 s0 : Nat) (a : Nat → Nat) (f cf : Nat → Int32) (en : Int64) (p0 : Int32) (p1 : Int32) (q : Nat) (hq : f 32 = nI q) (hq2 : q < 2147483648) : MXI l yX6_event wsX6_event ({ frames := 6, cells := 1, slots := 6, locals := 82 } : Room) D (tysK cI cJ cZ cO) [.ref g0, .int p0, .int p1] ((g0, .inr (6, [.ref (a 0), .ref k0, .ref s0])) :: simW cI a f cf en) (v_h0_thrown_X7_event p1) (r_X7_event f p0 p1) ((g0, .inr (6, [.ref (a 0), .ref k0, .ref s0])) :: simW cI a f cf en) (fun _ => eA) := by
  have M := mX6_event l hlt D cI cJ cZ cO g0 k0 s0 (a 0) (a 1) (a 2) (a 3) (a 4) (a 5) (a 6) (a 7) (a 8) (a 9) (a 10) (a 11) (a 12) (f 0) (f 1) (f 2) (f 3) (f 10) (f 11) (f 12) (f 13) (f 14) (f 15) (f 4) (f 5) (f 6) (f 16) (f 17) (f 18) (f 19) (f 7) (f 20) (f 9) (f 21) (f 22) (f 23) (f 8) (f 24) (f 25) (f 26) (f 27) (f 28) (f 29) en (f 31) (f 30) (f 32) (fun k => f (33 + k)) (fun k => f (53 + k)) (fun k => f (61 + k)) (fun k => f (69 + k)) cf (fun k => f (85 + k)) (fun k => f (125 + k)) p0 p1
  refine M.to (by (try simp only [k_X6_event, r_X6_event, v_h0_thrown_X7_event, r_X7_event, ou_if, bi_if, th_1, th_2, th_0]) <;> (try generalize r_X7_round (f 3 + p0) = X9) <;> (repeat' split) <;> first | rfl | (simp_all; done)) (fun h0 => ev_r hq hq2 h0) (fun H hP => ?_) (fun A hD => D_addr (by rfl) hD)
  exact hP
