set_option maxHeartbeats 4000000 in
set_option maxRecDepth 100000 in
theorem wrX6_saveN (l : Launch) (hlt : l.stackTraces = false) (D : va_G) (cI cJ cZ cO : ClassId) (g0 x0 s0 : Nat) (a : Nat → Nat) (f cf : Nat → Int32) (en : Int64) (sc : Nat → Option Nat) (p0 : Int32) (hco : f 10 = 0 ∨ f 10 = 1) (hin : r_X6_outside p0 0 1 = 0) (hsc : sc p0.toNatClampNeg = none) : MXV l yX6_save wsX6_save ({ frames := 4, cells := 13, slots := 178, locals := 131 } : Room) D (tysK cI cJ cZ cO) [.ref g0, .int p0] ((g0, .inr (6, [.ref (a 0), .ref x0, .ref s0])) :: (s0, .inl (cO, 2, .inr (.inr (.inr (.inr sc))))) :: simW cI a f cf en) 0 (fun (b : Nat → Nat) => (g0, .inr (6, [.ref (a 0), .ref x0, .ref s0])) :: (s0, .inl (cO, 2, .inr (.inr (.inr (.inr (va_up sc p0.toNatClampNeg (some (b 0)))))))) :: (simW cI a f cf en ++ simW cI b f cf en)) (fun _ => eA) := by
  have M := mX6_saveN l hlt D cI cJ cZ cO g0 x0 s0 (a 0) (a 1) (a 2) (a 3) (a 4) (a 5) (a 6) (a 7) (a 8) (a 9) (a 10) (a 11) (a 12) f cf en sc p0 hco hin hsc
  refine M.to rfl (fun u j => [u 0, u 1, u 2, u 3, u 4, u 5, u 6, u 7, u 8, u 9, u 10, u 11, u 12].getD j 0) (fun u H hP => ?_) (fun u A hD => ?_)
  · exact hP.sub [0, 1, 2, 3, 4, 5, 6, 7, 8, 9, 10, 11, 12, 13, 14, 15, 16, 17, 18, 19, 20, 21, 22, 23, 24, 25, 26, 27] rfl
  · exact hD.sub [0, 1, 2, 3, 4, 5, 6, 7, 8, 9, 10, 11, 12, 13, 14, 15, 16, 17, 18, 19, 20, 21, 22, 23, 24, 25, 26, 27] (by decide) rfl

set_option maxHeartbeats 4000000 in
set_option maxRecDepth 100000 in
theorem wrX6_saveO (l : Launch) (hlt : l.stackTraces = false) (D : va_G) (cI cJ cZ cO : ClassId) (g0 x0 s0 : Nat) (a : Nat → Nat) (f cf : Nat → Int32) (en : Int64) (b : Nat → Nat) (fb cb : Nat → Int32) (eb : Int64) (sc : Nat → Option Nat) (p0 : Int32) (hco : f 10 = 0 ∨ f 10 = 1) (hin : r_X6_outside p0 0 1 = 0) (hsc : sc p0.toNatClampNeg = some (b 0)) : MXV l yX6_save wsX6_save ({ frames := 4, cells := 0, slots := 0, locals := 131 } : Room) D (tysK cI cJ cZ cO) [.ref g0, .int p0] ((g0, .inr (6, [.ref (a 0), .ref x0, .ref s0])) :: (s0, .inl (cO, 2, .inr (.inr (.inr (.inr sc))))) :: (simW cI a f cf en ++ simW cI b fb cb eb)) 0 (fun (_ : Unit) => (g0, .inr (6, [.ref (a 0), .ref x0, .ref s0])) :: (s0, .inl (cO, 2, .inr (.inr (.inr (.inr sc))))) :: (simW cI a f cf en ++ simW cI b f cf en)) (fun _ => eA) := by
  have M := mX6_saveO l hlt D cI cJ cZ cO g0 x0 s0 (a 0) (a 1) (a 2) (a 3) (a 4) (a 5) (a 6) (a 7) (a 8) (a 9) (a 10) (a 11) (a 12) (b 0) (b 1) (b 2) (b 3) (b 4) (b 5) (b 6) (b 7) (b 8) (b 9) (b 10) (b 11) (b 12) f cf en fb cb eb sc p0 hco hin hsc
  refine M.to rfl id (fun _ H hP => ?_) (fun _ A hD => D_addr (by rfl) hD)
  exact hP

set_option maxHeartbeats 4000000 in
set_option maxRecDepth 100000 in
theorem wrX6_restoreN (l : Launch) (hlt : l.stackTraces = false) (D : va_G) (cI cJ cZ cO : ClassId) (g0 x0 s0 : Nat) (a : Nat → Nat) (f cf : Nat → Int32) (en : Int64) (sc : Nat → Option Nat) (p0 : Int32) (hin : r_X6_outside p0 0 1 = 0) (hsc : sc p0.toNatClampNeg = none) : MXV l yX6_restore wsX6_restore ({ frames := 6, cells := 1, slots := 6, locals := 82 } : Room) D (tysK cI cJ cZ cO) [.ref g0, .int p0] ((g0, .inr (6, [.ref (a 0), .ref x0, .ref s0])) :: (s0, .inl (cO, 2, .inr (.inr (.inr (.inr sc))))) :: simW cI a f cf en) 2 (fun (_ : Unit) => (g0, .inr (6, [.ref (a 0), .ref x0, .ref s0])) :: (s0, .inl (cO, 2, .inr (.inr (.inr (.inr sc))))) :: simW cI a f cf en) (fun k => if k = 1 then eA else eS) := by
  have M := mX6_restoreN l hlt D cI cJ cZ cO g0 x0 s0 (a 0) (a 1) (a 2) (a 3) (a 4) (a 5) (a 6) (a 7) (a 8) (a 9) (a 10) (a 11) (a 12) f cf en sc p0 hin hsc
  refine M.to rfl id (fun _ H hP => ?_) (fun _ A hD => D_addr (by rfl) hD)
  exact hP

set_option maxHeartbeats 4000000 in
set_option maxRecDepth 100000 in
theorem wrX6_restoreO (l : Launch) (hlt : l.stackTraces = false) (D : va_G) (cI cJ cZ cO : ClassId) (g0 x0 s0 : Nat) (a : Nat → Nat) (f cf : Nat → Int32) (en : Int64) (b : Nat → Nat) (fb cb : Nat → Int32) (eb : Int64) (sc : Nat → Option Nat) (p0 : Int32) (hco : fb 10 = 0 ∨ fb 10 = 1) (hin : r_X6_outside p0 0 1 = 0) (hsc : sc p0.toNatClampNeg = some (b 0)) : MXV l yX6_restore wsX6_restore ({ frames := 4, cells := 0, slots := 0, locals := 131 } : Room) D (tysK cI cJ cZ cO) [.ref g0, .int p0] ((g0, .inr (6, [.ref (a 0), .ref x0, .ref s0])) :: (s0, .inl (cO, 2, .inr (.inr (.inr (.inr sc))))) :: (simW cI a f cf en ++ simW cI b fb cb eb)) 0 (fun (_ : Unit) => (g0, .inr (6, [.ref (a 0), .ref x0, .ref s0])) :: (s0, .inl (cO, 2, .inr (.inr (.inr (.inr sc))))) :: (simW cI a fb cb eb ++ simW cI b fb cb eb)) (fun k => if k = 1 then eA else eS) := by
  have M := mX6_restoreO l hlt D cI cJ cZ cO g0 x0 s0 (a 0) (a 1) (a 2) (a 3) (a 4) (a 5) (a 6) (a 7) (a 8) (a 9) (a 10) (a 11) (a 12) (b 0) (b 1) (b 2) (b 3) (b 4) (b 5) (b 6) (b 7) (b 8) (b 9) (b 10) (b 11) (b 12) f cf en fb cb eb sc p0 hco hin hsc
  refine M.to rfl id (fun _ H hP => ?_) (fun _ A hD => D_addr (by rfl) hD)
  exact hP
