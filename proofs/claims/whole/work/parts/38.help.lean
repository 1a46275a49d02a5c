set_option maxHeartbeats 4000000 in
set_option maxRecDepth 100000 in
theorem hL_setGrid (l : Launch) (D : va_G) (cI cJ cZ cO : ClassId) (g0 : Nat) (p0 : Int32) (p1 : Int32) (rmX : Room) (hr1 : rmX.frames = 6) (hr2 : rmX.locals ≤ 180) {S0 : Type} (wc : va_W) (wc1 : S0 → va_W) (K : Int32) (fs : List Value) (hg : wc[0]? = some (g0, .inr (6, fs))) (hk : K = 0 ∨ K = 1) (hM : MXV l yX6_setGrid wsX6_setGrid rmX D (tysK cI cJ cZ cO) [.ref g0, .int p0, .int p1] wc K wc1 (fun _ => eA)) :
    HI l yL_setGrid wsL_setGrid ({ frames := 7, cells := rmX.cells, slots := rmX.slots, locals := 230 } : Room) D (tysK cI cJ cZ cO) [.ref g0, .int p0, .int p1] (wc) K wc1 := by
  refine HI.of (cc := cL_setGrid) (maxL := 4) (hh := [(0, 6, 9, 13)]) (by decide) rfl (Nat.le_of_ble_eq_true rfl) ?_
  intro p e s m args below meth c A Q ls H locs B hxs hzs htab hS hP hD hl hret
  obtain ⟨hx, hb, hml, hown, hts, hK, hN, hA, hlocks⟩ := B
  have hl : lv_has ls 4 [(0, .ref g0), (1, .int p0), (2, .int p1)] := hl
  refine lv_aload_n hx hb dL_setGrid_0 rfl (lv_at hl 0 rfl) ?_
  refine lv_iload_n hx hb dL_setGrid_1 rfl (lv_at hl 1 rfl) ?_
  refine lv_iload_n hx hb dL_setGrid_2 rfl (lv_at hl 2 rfl) ?_
  refine callX_v (As := [.int p0, .int p1]) (rest := []) (wr := []) ⟨hx, hb, hml, hown, hts⟩ hM (cwV 2 hts gL_setGrid_X6_setGrid rfl rfl rfl (by decide +kernel) ⟨by show rmX.frames + 1 ≤ 7; omega, by show 8 + (3 + 11) + rmX.locals ≤ 230; omega⟩) hK hN hxs hzs hP hD hS hA 6 0 hg rfl rfl rfl rfl hl.1 (Nat.le_of_ble_eq_true rfl) dL_setGrid_3 ⟨Nat.le_of_eq (Nat.zero_add _), Nat.le_of_eq (Nat.zero_add _)⟩ (fun hk0 u ce q9 H locs hP hD hS hce hcv hcl => ?_) (fun hk0 u H locs hP hD hS => ?_)
  · have hk : K = 1 := hk.resolve_left hk0
    refine vx_catch (own := RL) (name := eA) (E := eA) hown [] ⟨0, 6, 9, 13⟩ [] htab (fun z hz => absurd hz List.not_mem_nil) rfl (by decide) (hts (.classLink RL 13 eA) (by decide +kernel)) (va_Nw.use rfl hxs.2.2.2.1) hce hcv hcl ?_
    refine lv_astore_n (lv' := [(3, .ref q9), (0, .ref g0), (1, .int p0), (2, .int p1)]) hx hb dL_setGrid_9 rfl hl (by decide) rfl (fun ls hl => ?_)
    refine lv_iconst (v := 1) hx hb dL_setGrid_10 (by decide) ?_
    exact hret u _ _ _ _ _ _ _ _ hk.symm (rfl) hP hD hS (Nat.le_of_eq (Nat.zero_add _)) (Nat.le_of_eq (Nat.zero_add _)) dL_setGrid_11
  · refine lv_goto (tgt := 12) hx hb dL_setGrid_6 (by decide) ?_
    refine lv_iconst (v := 0) hx hb dL_setGrid_12 (by decide) ?_
    exact hret u _ _ _ _ _ _ _ _ hk0.symm (rfl) hP hD hS (Nat.le_of_eq (Nat.zero_add _)) (Nat.le_of_eq (Nat.zero_add _)) dL_setGrid_13

set_option maxHeartbeats 4000000 in
set_option maxRecDepth 100000 in
theorem hL_jump (l : Launch) (D : va_G) (cI cJ cZ cO : ClassId) (g0 : Nat) (p0 : Int32) (o : Nat) (ov : Nat → Int64) (rmX : Room) (hr1 : rmX.frames = 6) (hr2 : rmX.locals ≤ 180) (wc : va_W) (wc1 : va_W) (K R : Int32) (fs : List Value) (hg : wc[0]? = some (g0, .inr (6, fs))) (hk : K = 0 ∨ K = 1) (hM : MXI l yX6_jump wsX6_jump rmX D (tysK cI cJ cZ cO) [.ref g0, .int p0] wc K R wc1 (fun _ => eA)) :
    HI l yL_jump wsL_jump ({ frames := 7, cells := rmX.cells, slots := rmX.slots, locals := 230 } : Room) D (tysK cI cJ cZ cO) [.ref g0, .int p0, .ref o] ((o, .inl (cJ, 1, .inr (.inl ov))) :: wc) K (fun (_ : Unit) => (o, .inl (cJ, 1, .inr (.inl (if K = 0 then vp_updL ov 0 R.toInt64 else ov)))) :: wc1) := by
  refine HI.of (cc := cL_jump) (maxL := 4) (hh := [(0, 9, 12, 13)]) (by decide) rfl (Nat.le_of_ble_eq_true rfl) ?_
  intro p e s m args below meth c A Q ls H locs B hxs hzs htab hS hP hD hl hret
  obtain ⟨hx, hb, hml, hown, hts, hK, hN, hA, hlocks⟩ := B
  have hl : lv_has ls 4 [(0, .ref g0), (1, .int p0), (2, .ref o)] := hl
  refine lv_aload_n hx hb dL_jump_0 rfl (lv_at hl 2 rfl) ?_
  refine lv_iconst (v := 0) hx hb dL_jump_1 (by decide) ?_
  refine lv_aload_n hx hb dL_jump_2 rfl (lv_at hl 0 rfl) ?_
  refine lv_iload_n hx hb dL_jump_3 rfl (lv_at hl 1 rfl) ?_
  refine callX_i (As := [.int p0]) (rest := [.int 0, .ref o]) (wr := [(o, .inl (cJ, 1, .inr (.inl ov)))]) ⟨hx, hb, hml, hown, hts⟩ hM (cwV 1 hts gL_jump_X6_jump rfl rfl rfl (by decide +kernel) ⟨by show rmX.frames + 1 ≤ 7; omega, by show 8 + (2 + 11) + rmX.locals ≤ 230; omega⟩) hK hN hxs hzs hP hD hS hA 6 0 hg rfl rfl rfl rfl hl.1 (Nat.le_of_ble_eq_true rfl) dL_jump_4 ⟨Nat.le_of_eq (Nat.zero_add _), Nat.le_of_eq (Nat.zero_add _)⟩ (fun hk0 ce q9 H locs hP hD hS hce hcv hcl => ?_) (fun hk0 H locs hP hD hS => ?_)
  · have hk : K = 1 := hk.resolve_left hk0
    refine vx_catch (own := RL) (name := eA) (E := eA) hown [] ⟨0, 9, 12, 13⟩ [] htab (fun z hz => absurd hz List.not_mem_nil) rfl (by decide) (hts (.classLink RL 13 eA) (by decide +kernel)) (va_Nw.use rfl hxs.2.2.2.1) hce hcv hcl ?_
    refine lv_astore_n (lv' := [(3, .ref q9), (0, .ref g0), (1, .int p0), (2, .ref o)]) hx hb dL_jump_12 rfl hl (by decide) rfl (fun ls hl => ?_)
    refine lv_iconst (v := 1) hx hb dL_jump_13 (by decide) ?_
    exact hret () _ _ _ _ _ _ _ _ hk.symm (by rw [hk, if_neg (by decide)]; rfl) hP hD hS (Nat.le_of_eq (Nat.zero_add _)) (Nat.le_of_eq (Nat.zero_add _)) dL_jump_14
  · refine lv_i2l hx hb dL_jump_7 rfl ?_
    refine r_last hx hb hK hP hD hS 0 1 rfl rfl 0 rfl (Nat.le_of_ble_eq_true rfl) (Nat.le_of_ble_eq_true rfl) dL_jump_8 (fun H locs hP hD hS => ?_)
    refine lv_goto (tgt := 15) hx hb dL_jump_9 (by decide) ?_
    refine lv_iconst (v := 0) hx hb dL_jump_15 (by decide) ?_
    exact hret () _ _ _ _ _ _ _ _ hk0.symm (by rw [if_pos hk0]; rfl) hP hD hS (Nat.le_of_eq (Nat.zero_add _)) (Nat.le_of_eq (Nat.zero_add _)) dL_jump_16

set_option maxHeartbeats 4000000 in
set_option maxRecDepth 100000 in
theorem hL_setLoad (l : Launch) (D : va_G) (cI cJ cZ cO : ClassId) (g0 : Nat) (p0 : Int32) (p1 : Int32) (p2 : Int32) (rmX : Room) (hr1 : rmX.frames = 6) (hr2 : rmX.locals ≤ 180) {S0 : Type} (wc : va_W) (wc1 : S0 → va_W) (K : Int32) (fs : List Value) (hg : wc[0]? = some (g0, .inr (6, fs))) (hk : K = 0 ∨ K = 1) (hM : MXV l yX6_setLoad wsX6_setLoad rmX D (tysK cI cJ cZ cO) [.ref g0, .int p0, .int p1, .int p2] wc K wc1 (fun _ => eA)) :
    HI l yL_setLoad wsL_setLoad ({ frames := 7, cells := rmX.cells, slots := rmX.slots, locals := 230 } : Room) D (tysK cI cJ cZ cO) [.ref g0, .int p0, .int p1, .int p2] (wc) K wc1 := by
  refine HI.of (cc := cL_setLoad) (maxL := 5) (hh := [(0, 7, 10, 13)]) (by decide) rfl (Nat.le_of_ble_eq_true rfl) ?_
  intro p e s m args below meth c A Q ls H locs B hxs hzs htab hS hP hD hl hret
  obtain ⟨hx, hb, hml, hown, hts, hK, hN, hA, hlocks⟩ := B
  have hl : lv_has ls 5 [(0, .ref g0), (1, .int p0), (2, .int p1), (3, .int p2)] := hl
  refine lv_aload_n hx hb dL_setLoad_0 rfl (lv_at hl 0 rfl) ?_
  refine lv_iload_n hx hb dL_setLoad_1 rfl (lv_at hl 1 rfl) ?_
  refine lv_iload_n hx hb dL_setLoad_2 rfl (lv_at hl 2 rfl) ?_
  refine lv_iload_n hx hb dL_setLoad_3 rfl (lv_at hl 3 rfl) ?_
  refine callX_v (As := [.int p0, .int p1, .int p2]) (rest := []) (wr := []) ⟨hx, hb, hml, hown, hts⟩ hM (cwV 3 hts gL_setLoad_X6_setLoad rfl rfl rfl (by decide +kernel) ⟨by show rmX.frames + 1 ≤ 7; omega, by show 8 + (4 + 11) + rmX.locals ≤ 230; omega⟩) hK hN hxs hzs hP hD hS hA 6 0 hg rfl rfl rfl rfl hl.1 (Nat.le_of_ble_eq_true rfl) dL_setLoad_4 ⟨Nat.le_of_eq (Nat.zero_add _), Nat.le_of_eq (Nat.zero_add _)⟩ (fun hk0 u ce q9 H locs hP hD hS hce hcv hcl => ?_) (fun hk0 u H locs hP hD hS => ?_)
  · have hk : K = 1 := hk.resolve_left hk0
    refine vx_catch (own := RL) (name := eA) (E := eA) hown [] ⟨0, 7, 10, 13⟩ [] htab (fun z hz => absurd hz List.not_mem_nil) rfl (by decide) (hts (.classLink RL 13 eA) (by decide +kernel)) (va_Nw.use rfl hxs.2.2.2.1) hce hcv hcl ?_
    refine lv_astore (lv' := [(4, .ref q9), (0, .ref g0), (1, .int p0), (2, .int p1), (3, .int p2)]) hx hb dL_setLoad_10 hl (by decide) rfl (fun ls hl => ?_)
    refine lv_iconst (v := 1) hx hb dL_setLoad_12 (by decide) ?_
    exact hret u _ _ _ _ _ _ _ _ hk.symm (rfl) hP hD hS (Nat.le_of_eq (Nat.zero_add _)) (Nat.le_of_eq (Nat.zero_add _)) dL_setLoad_13
  · refine lv_goto (tgt := 14) hx hb dL_setLoad_7 (by decide) ?_
    refine lv_iconst (v := 0) hx hb dL_setLoad_14 (by decide) ?_
    exact hret u _ _ _ _ _ _ _ _ hk0.symm (rfl) hP hD hS (Nat.le_of_eq (Nat.zero_add _)) (Nat.le_of_eq (Nat.zero_add _)) dL_setLoad_15

set_option maxHeartbeats 4000000 in
set_option maxRecDepth 100000 in
theorem hL_setLoop (l : Launch) (D : va_G) (cI cJ cZ cO : ClassId) (g0 : Nat) (p0 : Int32) (p1 : Int32) (rmX : Room) (hr1 : rmX.frames = 6) (hr2 : rmX.locals ≤ 180) {S0 : Type} (wc : va_W) (wc1 : S0 → va_W) (K : Int32) (fs : List Value) (hg : wc[0]? = some (g0, .inr (6, fs))) (hk : K = 0 ∨ K = 1) (hM : MXV l yX6_setLoop wsX6_setLoop rmX D (tysK cI cJ cZ cO) [.ref g0, .int p0, .int p1] wc K wc1 (fun _ => eA)) :
    HI l yL_setLoop wsL_setLoop ({ frames := 7, cells := rmX.cells, slots := rmX.slots, locals := 230 } : Room) D (tysK cI cJ cZ cO) [.ref g0, .int p0, .int p1] (wc) K wc1 := by
  refine HI.of (cc := cL_setLoop) (maxL := 4) (hh := [(0, 6, 9, 13)]) (by decide) rfl (Nat.le_of_ble_eq_true rfl) ?_
  intro p e s m args below meth c A Q ls H locs B hxs hzs htab hS hP hD hl hret
  obtain ⟨hx, hb, hml, hown, hts, hK, hN, hA, hlocks⟩ := B
  have hl : lv_has ls 4 [(0, .ref g0), (1, .int p0), (2, .int p1)] := hl
  refine lv_aload_n hx hb dL_setLoop_0 rfl (lv_at hl 0 rfl) ?_
  refine lv_iload_n hx hb dL_setLoop_1 rfl (lv_at hl 1 rfl) ?_
  refine lv_iload_n hx hb dL_setLoop_2 rfl (lv_at hl 2 rfl) ?_
  refine callX_v (As := [.int p0, .int p1]) (rest := []) (wr := []) ⟨hx, hb, hml, hown, hts⟩ hM (cwV 2 hts gL_setLoop_X6_setLoop rfl rfl rfl (by decide +kernel) ⟨by show rmX.frames + 1 ≤ 7; omega, by show 8 + (3 + 11) + rmX.locals ≤ 230; omega⟩) hK hN hxs hzs hP hD hS hA 6 0 hg rfl rfl rfl rfl hl.1 (Nat.le_of_ble_eq_true rfl) dL_setLoop_3 ⟨Nat.le_of_eq (Nat.zero_add _), Nat.le_of_eq (Nat.zero_add _)⟩ (fun hk0 u ce q9 H locs hP hD hS hce hcv hcl => ?_) (fun hk0 u H locs hP hD hS => ?_)
  · have hk : K = 1 := hk.resolve_left hk0
    refine vx_catch (own := RL) (name := eA) (E := eA) hown [] ⟨0, 6, 9, 13⟩ [] htab (fun z hz => absurd hz List.not_mem_nil) rfl (by decide) (hts (.classLink RL 13 eA) (by decide +kernel)) (va_Nw.use rfl hxs.2.2.2.1) hce hcv hcl ?_
    refine lv_astore_n (lv' := [(3, .ref q9), (0, .ref g0), (1, .int p0), (2, .int p1)]) hx hb dL_setLoop_9 rfl hl (by decide) rfl (fun ls hl => ?_)
    refine lv_iconst (v := 1) hx hb dL_setLoop_10 (by decide) ?_
    exact hret u _ _ _ _ _ _ _ _ hk.symm (rfl) hP hD hS (Nat.le_of_eq (Nat.zero_add _)) (Nat.le_of_eq (Nat.zero_add _)) dL_setLoop_11
  · refine lv_goto (tgt := 12) hx hb dL_setLoop_6 (by decide) ?_
    refine lv_iconst (v := 0) hx hb dL_setLoop_12 (by decide) ?_
    exact hret u _ _ _ _ _ _ _ _ hk0.symm (rfl) hP hD hS (Nat.le_of_eq (Nat.zero_add _)) (Nat.le_of_eq (Nat.zero_add _)) dL_setLoop_13

set_option maxHeartbeats 4000000 in
set_option maxRecDepth 100000 in
theorem hL_setLock (l : Launch) (D : va_G) (cI cJ cZ cO : ClassId) (g0 : Nat) (p0 : Int32) (p1 : Int32) (rmX : Room) (hr1 : rmX.frames = 6) (hr2 : rmX.locals ≤ 180) {S0 : Type} (wc : va_W) (wc1 : S0 → va_W) (K : Int32) (fs : List Value) (hg : wc[0]? = some (g0, .inr (6, fs))) (hk : K = 0 ∨ K = 1) (hM : MXV l yX6_setLock wsX6_setLock rmX D (tysK cI cJ cZ cO) [.ref g0, .int p0, .int p1] wc K wc1 (fun _ => eA)) :
    HI l yL_setLock wsL_setLock ({ frames := 7, cells := rmX.cells, slots := rmX.slots, locals := 230 } : Room) D (tysK cI cJ cZ cO) [.ref g0, .int p0, .int p1] (wc) K wc1 := by
  refine HI.of (cc := cL_setLock) (maxL := 4) (hh := [(0, 6, 9, 13)]) (by decide) rfl (Nat.le_of_ble_eq_true rfl) ?_
  intro p e s m args below meth c A Q ls H locs B hxs hzs htab hS hP hD hl hret
  obtain ⟨hx, hb, hml, hown, hts, hK, hN, hA, hlocks⟩ := B
  have hl : lv_has ls 4 [(0, .ref g0), (1, .int p0), (2, .int p1)] := hl
  refine lv_aload_n hx hb dL_setLock_0 rfl (lv_at hl 0 rfl) ?_
  refine lv_iload_n hx hb dL_setLock_1 rfl (lv_at hl 1 rfl) ?_
  refine lv_iload_n hx hb dL_setLock_2 rfl (lv_at hl 2 rfl) ?_
  refine callX_v (As := [.int p0, .int p1]) (rest := []) (wr := []) ⟨hx, hb, hml, hown, hts⟩ hM (cwV 2 hts gL_setLock_X6_setLock rfl rfl rfl (by decide +kernel) ⟨by show rmX.frames + 1 ≤ 7; omega, by show 8 + (3 + 11) + rmX.locals ≤ 230; omega⟩) hK hN hxs hzs hP hD hS hA 6 0 hg rfl rfl rfl rfl hl.1 (Nat.le_of_ble_eq_true rfl) dL_setLock_3 ⟨Nat.le_of_eq (Nat.zero_add _), Nat.le_of_eq (Nat.zero_add _)⟩ (fun hk0 u ce q9 H locs hP hD hS hce hcv hcl => ?_) (fun hk0 u H locs hP hD hS => ?_)
  · have hk : K = 1 := hk.resolve_left hk0
    refine vx_catch (own := RL) (name := eA) (E := eA) hown [] ⟨0, 6, 9, 13⟩ [] htab (fun z hz => absurd hz List.not_mem_nil) rfl (by decide) (hts (.classLink RL 13 eA) (by decide +kernel)) (va_Nw.use rfl hxs.2.2.2.1) hce hcv hcl ?_
    refine lv_astore_n (lv' := [(3, .ref q9), (0, .ref g0), (1, .int p0), (2, .int p1)]) hx hb dL_setLock_9 rfl hl (by decide) rfl (fun ls hl => ?_)
    refine lv_iconst (v := 1) hx hb dL_setLock_10 (by decide) ?_
    exact hret u _ _ _ _ _ _ _ _ hk.symm (rfl) hP hD hS (Nat.le_of_eq (Nat.zero_add _)) (Nat.le_of_eq (Nat.zero_add _)) dL_setLock_11
  · refine lv_goto (tgt := 12) hx hb dL_setLock_6 (by decide) ?_
    refine lv_iconst (v := 0) hx hb dL_setLock_12 (by decide) ?_
    exact hret u _ _ _ _ _ _ _ _ hk0.symm (rfl) hP hD hS (Nat.le_of_eq (Nat.zero_add _)) (Nat.le_of_eq (Nat.zero_add _)) dL_setLock_13

set_option maxHeartbeats 4000000 in
set_option maxRecDepth 100000 in
theorem hL_setWindow (l : Launch) (D : va_G) (cI cJ cZ cO : ClassId) (g0 : Nat) (p0 : Int32) (p1 : Int32) (p2 : Int32) (p3 : Int32) (rmX : Room) (hr1 : rmX.frames = 6) (hr2 : rmX.locals ≤ 180) {S0 : Type} (wc : va_W) (wc1 : S0 → va_W) (K : Int32) (fs : List Value) (hg : wc[0]? = some (g0, .inr (6, fs))) (hk : K = 0 ∨ K = 1) (hM : MXV l yX6_setWindow wsX6_setWindow rmX D (tysK cI cJ cZ cO) [.ref g0, .int p0, .int p1, .int p2, .int p3] wc K wc1 (fun _ => eA)) :
    HI l yL_setWindow wsL_setWindow ({ frames := 7, cells := rmX.cells, slots := rmX.slots, locals := 230 } : Room) D (tysK cI cJ cZ cO) [.ref g0, .int p0, .int p1, .int p2, .int p3] (wc) K wc1 := by
  refine HI.of (cc := cL_setWindow) (maxL := 6) (hh := [(0, 9, 12, 13)]) (by decide) rfl (Nat.le_of_ble_eq_true rfl) ?_
  intro p e s m args below meth c A Q ls H locs B hxs hzs htab hS hP hD hl hret
  obtain ⟨hx, hb, hml, hown, hts, hK, hN, hA, hlocks⟩ := B
  have hl : lv_has ls 6 [(0, .ref g0), (1, .int p0), (2, .int p1), (3, .int p2), (4, .int p3)] := hl
  refine lv_aload_n hx hb dL_setWindow_0 rfl (lv_at hl 0 rfl) ?_
  refine lv_iload_n hx hb dL_setWindow_1 rfl (lv_at hl 1 rfl) ?_
  refine lv_iload_n hx hb dL_setWindow_2 rfl (lv_at hl 2 rfl) ?_
  refine lv_iload_n hx hb dL_setWindow_3 rfl (lv_at hl 3 rfl) ?_
  refine lv_iload hx hb dL_setWindow_4 (lv_at hl 4 rfl) ?_
  refine callX_v (As := [.int p0, .int p1, .int p2, .int p3]) (rest := []) (wr := []) ⟨hx, hb, hml, hown, hts⟩ hM (cwV 4 hts gL_setWindow_X6_setWindow rfl rfl rfl (by decide +kernel) ⟨by show rmX.frames + 1 ≤ 7; omega, by show 8 + (6 + 11) + rmX.locals ≤ 230; omega⟩) hK hN hxs hzs hP hD hS hA 6 0 hg rfl rfl rfl rfl hl.1 (Nat.le_of_ble_eq_true rfl) dL_setWindow_6 ⟨Nat.le_of_eq (Nat.zero_add _), Nat.le_of_eq (Nat.zero_add _)⟩ (fun hk0 u ce q9 H locs hP hD hS hce hcv hcl => ?_) (fun hk0 u H locs hP hD hS => ?_)
  · have hk : K = 1 := hk.resolve_left hk0
    refine vx_catch (own := RL) (name := eA) (E := eA) hown [] ⟨0, 9, 12, 13⟩ [] htab (fun z hz => absurd hz List.not_mem_nil) rfl (by decide) (hts (.classLink RL 13 eA) (by decide +kernel)) (va_Nw.use rfl hxs.2.2.2.1) hce hcv hcl ?_
    refine lv_astore (lv' := [(5, .ref q9), (0, .ref g0), (1, .int p0), (2, .int p1), (3, .int p2), (4, .int p3)]) hx hb dL_setWindow_12 hl (by decide) rfl (fun ls hl => ?_)
    refine lv_iconst (v := 1) hx hb dL_setWindow_14 (by decide) ?_
    exact hret u _ _ _ _ _ _ _ _ hk.symm (rfl) hP hD hS (Nat.le_of_eq (Nat.zero_add _)) (Nat.le_of_eq (Nat.zero_add _)) dL_setWindow_15
  · refine lv_goto (tgt := 16) hx hb dL_setWindow_9 (by decide) ?_
    refine lv_iconst (v := 0) hx hb dL_setWindow_16 (by decide) ?_
    exact hret u _ _ _ _ _ _ _ _ hk0.symm (rfl) hP hD hS (Nat.le_of_eq (Nat.zero_add _)) (Nat.le_of_eq (Nat.zero_add _)) dL_setWindow_17

set_option maxHeartbeats 4000000 in
set_option maxRecDepth 100000 in
theorem hL_setPower (l : Launch) (D : va_G) (cI cJ cZ cO : ClassId) (g0 : Nat) (p0 : Int32) (p1 : Int32) (p2 : Int32) (rmX : Room) (hr1 : rmX.frames = 6) (hr2 : rmX.locals ≤ 180) {S0 : Type} (wc : va_W) (wc1 : S0 → va_W) (K : Int32) (fs : List Value) (hg : wc[0]? = some (g0, .inr (6, fs))) (hk : K = 0 ∨ K = 1) (hM : MXV l yX6_setPower wsX6_setPower rmX D (tysK cI cJ cZ cO) [.ref g0, .int p0, .int p1, .int p2] wc K wc1 (fun _ => eA)) :
    HI l yL_setPower wsL_setPower ({ frames := 7, cells := rmX.cells, slots := rmX.slots, locals := 230 } : Room) D (tysK cI cJ cZ cO) [.ref g0, .int p0, .int p1, .int p2] (wc) K wc1 := by
  refine HI.of (cc := cL_setPower) (maxL := 5) (hh := [(0, 7, 10, 13)]) (by decide) rfl (Nat.le_of_ble_eq_true rfl) ?_
  intro p e s m args below meth c A Q ls H locs B hxs hzs htab hS hP hD hl hret
  obtain ⟨hx, hb, hml, hown, hts, hK, hN, hA, hlocks⟩ := B
  have hl : lv_has ls 5 [(0, .ref g0), (1, .int p0), (2, .int p1), (3, .int p2)] := hl
  refine lv_aload_n hx hb dL_setPower_0 rfl (lv_at hl 0 rfl) ?_
  refine lv_iload_n hx hb dL_setPower_1 rfl (lv_at hl 1 rfl) ?_
  refine lv_iload_n hx hb dL_setPower_2 rfl (lv_at hl 2 rfl) ?_
  refine lv_iload_n hx hb dL_setPower_3 rfl (lv_at hl 3 rfl) ?_
  refine callX_v (As := [.int p0, .int p1, .int p2]) (rest := []) (wr := []) ⟨hx, hb, hml, hown, hts⟩ hM (cwV 3 hts gL_setPower_X6_setPower rfl rfl rfl (by decide +kernel) ⟨by show rmX.frames + 1 ≤ 7; omega, by show 8 + (4 + 11) + rmX.locals ≤ 230; omega⟩) hK hN hxs hzs hP hD hS hA 6 0 hg rfl rfl rfl rfl hl.1 (Nat.le_of_ble_eq_true rfl) dL_setPower_4 ⟨Nat.le_of_eq (Nat.zero_add _), Nat.le_of_eq (Nat.zero_add _)⟩ (fun hk0 u ce q9 H locs hP hD hS hce hcv hcl => ?_) (fun hk0 u H locs hP hD hS => ?_)
  · have hk : K = 1 := hk.resolve_left hk0
    refine vx_catch (own := RL) (name := eA) (E := eA) hown [] ⟨0, 7, 10, 13⟩ [] htab (fun z hz => absurd hz List.not_mem_nil) rfl (by decide) (hts (.classLink RL 13 eA) (by decide +kernel)) (va_Nw.use rfl hxs.2.2.2.1) hce hcv hcl ?_
    refine lv_astore (lv' := [(4, .ref q9), (0, .ref g0), (1, .int p0), (2, .int p1), (3, .int p2)]) hx hb dL_setPower_10 hl (by decide) rfl (fun ls hl => ?_)
    refine lv_iconst (v := 1) hx hb dL_setPower_12 (by decide) ?_
    exact hret u _ _ _ _ _ _ _ _ hk.symm (rfl) hP hD hS (Nat.le_of_eq (Nat.zero_add _)) (Nat.le_of_eq (Nat.zero_add _)) dL_setPower_13
  · refine lv_goto (tgt := 14) hx hb dL_setPower_7 (by decide) ?_
    refine lv_iconst (v := 0) hx hb dL_setPower_14 (by decide) ?_
    exact hret u _ _ _ _ _ _ _ _ hk0.symm (rfl) hP hD hS (Nat.le_of_eq (Nat.zero_add _)) (Nat.le_of_eq (Nat.zero_add _)) dL_setPower_15

set_option maxHeartbeats 4000000 in
set_option maxRecDepth 100000 in
theorem hL_setDrift (l : Launch) (D : va_G) (cI cJ cZ cO : ClassId) (g0 : Nat) (p0 : Int32) (p1 : Int32) (rmX : Room) (hr1 : rmX.frames = 6) (hr2 : rmX.locals ≤ 180) {S0 : Type} (wc : va_W) (wc1 : S0 → va_W) (K : Int32) (fs : List Value) (hg : wc[0]? = some (g0, .inr (6, fs))) (hk : K = 0 ∨ K = 1) (hM : MXV l yX6_setDrift wsX6_setDrift rmX D (tysK cI cJ cZ cO) [.ref g0, .int p0, .int p1] wc K wc1 (fun _ => eA)) :
    HI l yL_setDrift wsL_setDrift ({ frames := 7, cells := rmX.cells, slots := rmX.slots, locals := 230 } : Room) D (tysK cI cJ cZ cO) [.ref g0, .int p0, .int p1] (wc) K wc1 := by
  refine HI.of (cc := cL_setDrift) (maxL := 4) (hh := [(0, 6, 9, 13)]) (by decide) rfl (Nat.le_of_ble_eq_true rfl) ?_
  intro p e s m args below meth c A Q ls H locs B hxs hzs htab hS hP hD hl hret
  obtain ⟨hx, hb, hml, hown, hts, hK, hN, hA, hlocks⟩ := B
  have hl : lv_has ls 4 [(0, .ref g0), (1, .int p0), (2, .int p1)] := hl
  refine lv_aload_n hx hb dL_setDrift_0 rfl (lv_at hl 0 rfl) ?_
  refine lv_iload_n hx hb dL_setDrift_1 rfl (lv_at hl 1 rfl) ?_
  refine lv_iload_n hx hb dL_setDrift_2 rfl (lv_at hl 2 rfl) ?_
  refine callX_v (As := [.int p0, .int p1]) (rest := []) (wr := []) ⟨hx, hb, hml, hown, hts⟩ hM (cwV 2 hts gL_setDrift_X6_setDrift rfl rfl rfl (by decide +kernel) ⟨by show rmX.frames + 1 ≤ 7; omega, by show 8 + (3 + 11) + rmX.locals ≤ 230; omega⟩) hK hN hxs hzs hP hD hS hA 6 0 hg rfl rfl rfl rfl hl.1 (Nat.le_of_ble_eq_true rfl) dL_setDrift_3 ⟨Nat.le_of_eq (Nat.zero_add _), Nat.le_of_eq (Nat.zero_add _)⟩ (fun hk0 u ce q9 H locs hP hD hS hce hcv hcl => ?_) (fun hk0 u H locs hP hD hS => ?_)
  · have hk : K = 1 := hk.resolve_left hk0
    refine vx_catch (own := RL) (name := eA) (E := eA) hown [] ⟨0, 6, 9, 13⟩ [] htab (fun z hz => absurd hz List.not_mem_nil) rfl (by decide) (hts (.classLink RL 13 eA) (by decide +kernel)) (va_Nw.use rfl hxs.2.2.2.1) hce hcv hcl ?_
    refine lv_astore_n (lv' := [(3, .ref q9), (0, .ref g0), (1, .int p0), (2, .int p1)]) hx hb dL_setDrift_9 rfl hl (by decide) rfl (fun ls hl => ?_)
    refine lv_iconst (v := 1) hx hb dL_setDrift_10 (by decide) ?_
    exact hret u _ _ _ _ _ _ _ _ hk.symm (rfl) hP hD hS (Nat.le_of_eq (Nat.zero_add _)) (Nat.le_of_eq (Nat.zero_add _)) dL_setDrift_11
  · refine lv_goto (tgt := 12) hx hb dL_setDrift_6 (by decide) ?_
    refine lv_iconst (v := 0) hx hb dL_setDrift_12 (by decide) ?_
    exact hret u _ _ _ _ _ _ _ _ hk0.symm (rfl) hP hD hS (Nat.le_of_eq (Nat.zero_add _)) (Nat.le_of_eq (Nat.zero_add _)) dL_setDrift_13

set_option maxHeartbeats 4000000 in
set_option maxRecDepth 100000 in
theorem hL_addRule (l : Launch) (D : va_G) (cI cJ cZ cO : ClassId) (g0 : Nat) (p0 : Int32) (p1 : Int32) (p2 : Int32) (o : Nat) (ov : Nat → Int64) (rmX : Room) (hr1 : rmX.frames = 6) (hr2 : rmX.locals ≤ 180) (wc : va_W) (wc1 : va_W) (K R : Int32) (fs : List Value) (hg : wc[0]? = some (g0, .inr (6, fs))) (hk : K = 0 ∨ K = 1 ∨ K = 2) (hM : MXI l yX6_addRule wsX6_addRule rmX D (tysK cI cJ cZ cO) [.ref g0, .int p0, .int p1, .int p2] wc K R wc1 (fun k => if k = 1 then eA else eS)) :
    HI l yL_addRule wsL_addRule ({ frames := 7, cells := rmX.cells, slots := rmX.slots, locals := 230 } : Room) D (tysK cI cJ cZ cO) [.ref g0, .int p0, .int p1, .int p2, .ref o] ((o, .inl (cJ, 1, .inr (.inl ov))) :: wc) K (fun (_ : Unit) => (o, .inl (cJ, 1, .inr (.inl (if K = 0 then vp_updL ov 0 R.toInt64 else ov)))) :: wc1) := by
  refine HI.of (cc := cL_addRule) (maxL := 6) (hh := [(0, 12, 15, 13), (0, 12, 19, 43)]) (by decide) rfl (Nat.le_of_ble_eq_true rfl) ?_
  intro p e s m args below meth c A Q ls H locs B hxs hzs htab hS hP hD hl hret
  obtain ⟨hx, hb, hml, hown, hts, hK, hN, hA, hlocks⟩ := B
  have hl : lv_has ls 6 [(0, .ref g0), (1, .int p0), (2, .int p1), (3, .int p2), (4, .ref o)] := hl
  refine lv_aload hx hb dL_addRule_0 (lv_at hl 4 rfl) ?_
  refine lv_iconst (v := 0) hx hb dL_addRule_2 (by decide) ?_
  refine lv_aload_n hx hb dL_addRule_3 rfl (lv_at hl 0 rfl) ?_
  refine lv_iload_n hx hb dL_addRule_4 rfl (lv_at hl 1 rfl) ?_
  refine lv_iload_n hx hb dL_addRule_5 rfl (lv_at hl 2 rfl) ?_
  refine lv_iload_n hx hb dL_addRule_6 rfl (lv_at hl 3 rfl) ?_
  refine callX_i (As := [.int p0, .int p1, .int p2]) (rest := [.int 0, .ref o]) (wr := [(o, .inl (cJ, 1, .inr (.inl ov)))]) ⟨hx, hb, hml, hown, hts⟩ hM (cwV 3 hts gL_addRule_X6_addRule rfl rfl rfl (by decide +kernel) ⟨by show rmX.frames + 1 ≤ 7; omega, by show 8 + (5 + 11) + rmX.locals ≤ 230; omega⟩) hK hN hxs hzs hP hD hS hA 6 0 hg rfl rfl rfl rfl hl.1 (Nat.le_of_ble_eq_true rfl) dL_addRule_7 ⟨Nat.le_of_eq (Nat.zero_add _), Nat.le_of_eq (Nat.zero_add _)⟩ (fun hk0 ce q9 H locs hP hD hS hce hcv hcl => ?_) (fun hk0 H locs hP hD hS => ?_)
  · rcases hk with hk | hk | hk
    · exact absurd hk hk0
    · refine vx_catch (own := RL) (name := eA) (E := eA) hown [] ⟨0, 12, 15, 13⟩ [⟨0, 12, 19, 43⟩] htab (fun z hz => absurd hz List.not_mem_nil) rfl (by decide) (hts (.classLink RL 13 eA) (by decide +kernel)) (va_Nw.use rfl hxs.2.2.2.1) hce hcv (by rw [hk] at hcl; exact hcl) ?_
      refine lv_astore (lv' := [(5, .ref q9), (0, .ref g0), (1, .int p0), (2, .int p1), (3, .int p2), (4, .ref o)]) hx hb dL_addRule_15 hl (by decide) rfl (fun ls hl => ?_)
      refine lv_iconst (v := 1) hx hb dL_addRule_17 (by decide) ?_
      exact hret () _ _ _ _ _ _ _ _ hk.symm (by rw [hk, if_neg (by decide)]; rfl) hP hD hS (Nat.le_of_eq (Nat.zero_add _)) (Nat.le_of_eq (Nat.zero_add _)) dL_addRule_18
    · refine vx_catch (own := RL) (name := eS) (E := eS) hown [⟨0, 12, 15, 13⟩] ⟨0, 12, 19, 43⟩ [] htab (fun z hz => by cases List.mem_singleton.mp hz; exact Or.inr ⟨by decide, eA, hts (.classLink RL 13 eA) (by decide +kernel), hxs.2.2.2.2.2.2.2⟩) rfl (by decide) (hts (.classLink RL 43 eS) (by decide +kernel)) (va_Nw.use rfl hxs.2.2.2.2.1) hce hcv (by rw [hk] at hcl; exact hcl) ?_
      refine lv_astore (lv' := [(5, .ref q9), (0, .ref g0), (1, .int p0), (2, .int p1), (3, .int p2), (4, .ref o)]) hx hb dL_addRule_19 hl (by decide) rfl (fun ls hl => ?_)
      refine lv_iconst (v := 2) hx hb dL_addRule_21 (by decide) ?_
      exact hret () _ _ _ _ _ _ _ _ hk.symm (by rw [hk, if_neg (by decide)]; rfl) hP hD hS (Nat.le_of_eq (Nat.zero_add _)) (Nat.le_of_eq (Nat.zero_add _)) dL_addRule_22
  · refine lv_i2l hx hb dL_addRule_10 rfl ?_
    refine r_last hx hb hK hP hD hS 0 1 rfl rfl 0 rfl (Nat.le_of_ble_eq_true rfl) (Nat.le_of_ble_eq_true rfl) dL_addRule_11 (fun H locs hP hD hS => ?_)
    refine lv_goto (tgt := 23) hx hb dL_addRule_12 (by decide) ?_
    refine lv_iconst (v := 0) hx hb dL_addRule_23 (by decide) ?_
    exact hret () _ _ _ _ _ _ _ _ hk0.symm (by rw [if_pos hk0]; rfl) hP hD hS (Nat.le_of_eq (Nat.zero_add _)) (Nat.le_of_eq (Nat.zero_add _)) dL_addRule_24

set_option maxHeartbeats 4000000 in
set_option maxRecDepth 100000 in
theorem hL_advance (l : Launch) (D : va_G) (cI cJ cZ cO : ClassId) (g0 : Nat) (p0 : Int32) (o : Nat) (ov : Nat → Int64) (rmX : Room) (hr1 : rmX.frames = 6) (hr2 : rmX.locals ≤ 180) (wc : va_W) (wc1 : va_W) (K R : Int32) (fs : List Value) (hg : wc[0]? = some (g0, .inr (6, fs))) (hk : K = 0 ∨ K = 1) (hM : MXI l yX6_advance wsX6_advance rmX D (tysK cI cJ cZ cO) [.ref g0, .int p0] wc K R wc1 (fun _ => eA)) :
    HI l yL_advance wsL_advance ({ frames := 7, cells := rmX.cells, slots := rmX.slots, locals := 230 } : Room) D (tysK cI cJ cZ cO) [.ref g0, .int p0, .ref o] ((o, .inl (cJ, 1, .inr (.inl ov))) :: wc) K (fun (_ : Unit) => (o, .inl (cJ, 1, .inr (.inl (if K = 0 then vp_updL ov 0 R.toInt64 else ov)))) :: wc1) := by
  refine HI.of (cc := cL_advance) (maxL := 4) (hh := [(0, 9, 12, 13)]) (by decide) rfl (Nat.le_of_ble_eq_true rfl) ?_
  intro p e s m args below meth c A Q ls H locs B hxs hzs htab hS hP hD hl hret
  obtain ⟨hx, hb, hml, hown, hts, hK, hN, hA, hlocks⟩ := B
  have hl : lv_has ls 4 [(0, .ref g0), (1, .int p0), (2, .ref o)] := hl
  refine lv_aload_n hx hb dL_advance_0 rfl (lv_at hl 2 rfl) ?_
  refine lv_iconst (v := 0) hx hb dL_advance_1 (by decide) ?_
  refine lv_aload_n hx hb dL_advance_2 rfl (lv_at hl 0 rfl) ?_
  refine lv_iload_n hx hb dL_advance_3 rfl (lv_at hl 1 rfl) ?_
  refine callX_i (As := [.int p0]) (rest := [.int 0, .ref o]) (wr := [(o, .inl (cJ, 1, .inr (.inl ov)))]) ⟨hx, hb, hml, hown, hts⟩ hM (cwV 1 hts gL_advance_X6_advance rfl rfl rfl (by decide +kernel) ⟨by show rmX.frames + 1 ≤ 7; omega, by show 8 + (3 + 11) + rmX.locals ≤ 230; omega⟩) hK hN hxs hzs hP hD hS hA 6 0 hg rfl rfl rfl rfl hl.1 (Nat.le_of_ble_eq_true rfl) dL_advance_4 ⟨Nat.le_of_eq (Nat.zero_add _), Nat.le_of_eq (Nat.zero_add _)⟩ (fun hk0 ce q9 H locs hP hD hS hce hcv hcl => ?_) (fun hk0 H locs hP hD hS => ?_)
  · have hk : K = 1 := hk.resolve_left hk0
    refine vx_catch (own := RL) (name := eA) (E := eA) hown [] ⟨0, 9, 12, 13⟩ [] htab (fun z hz => absurd hz List.not_mem_nil) rfl (by decide) (hts (.classLink RL 13 eA) (by decide +kernel)) (va_Nw.use rfl hxs.2.2.2.1) hce hcv hcl ?_
    refine lv_astore_n (lv' := [(3, .ref q9), (0, .ref g0), (1, .int p0), (2, .ref o)]) hx hb dL_advance_12 rfl hl (by decide) rfl (fun ls hl => ?_)
    refine lv_iconst (v := 1) hx hb dL_advance_13 (by decide) ?_
    exact hret () _ _ _ _ _ _ _ _ hk.symm (by rw [hk, if_neg (by decide)]; rfl) hP hD hS (Nat.le_of_eq (Nat.zero_add _)) (Nat.le_of_eq (Nat.zero_add _)) dL_advance_14
  · refine lv_i2l hx hb dL_advance_7 rfl ?_
    refine r_last hx hb hK hP hD hS 0 1 rfl rfl 0 rfl (Nat.le_of_ble_eq_true rfl) (Nat.le_of_ble_eq_true rfl) dL_advance_8 (fun H locs hP hD hS => ?_)
    refine lv_goto (tgt := 15) hx hb dL_advance_9 (by decide) ?_
    refine lv_iconst (v := 0) hx hb dL_advance_15 (by decide) ?_
    exact hret () _ _ _ _ _ _ _ _ hk0.symm (by rw [if_pos hk0]; rfl) hP hD hS (Nat.le_of_eq (Nat.zero_add _)) (Nat.le_of_eq (Nat.zero_add _)) dL_advance_16

set_option maxHeartbeats 4000000 in
set_option maxRecDepth 100000 in
theorem hL_measure (l : Launch) (D : va_G) (cI cJ cZ cO : ClassId) (g0 : Nat) (p0 : Int32) (o : Nat) (ov : Nat → Int64) (rmX : Room) (hr1 : rmX.frames = 6) (hr2 : rmX.locals ≤ 180) (wc : va_W) (wc1 : va_W) (K R : Int32) (fs : List Value) (hg : wc[0]? = some (g0, .inr (6, fs))) (hk : K = 0 ∨ K = 1) (hM : MXI l yX6_measure wsX6_measure rmX D (tysK cI cJ cZ cO) [.ref g0, .int p0] wc K R wc1 (fun _ => eA)) :
    HI l yL_measure wsL_measure ({ frames := 7, cells := rmX.cells, slots := rmX.slots, locals := 230 } : Room) D (tysK cI cJ cZ cO) [.ref g0, .int p0, .ref o] ((o, .inl (cJ, 1, .inr (.inl ov))) :: wc) K (fun (_ : Unit) => (o, .inl (cJ, 1, .inr (.inl (if K = 0 then vp_updL ov 0 R.toInt64 else ov)))) :: wc1) := by
  refine HI.of (cc := cL_measure) (maxL := 4) (hh := [(0, 9, 12, 13)]) (by decide) rfl (Nat.le_of_ble_eq_true rfl) ?_
  intro p e s m args below meth c A Q ls H locs B hxs hzs htab hS hP hD hl hret
  obtain ⟨hx, hb, hml, hown, hts, hK, hN, hA, hlocks⟩ := B
  have hl : lv_has ls 4 [(0, .ref g0), (1, .int p0), (2, .ref o)] := hl
  refine lv_aload_n hx hb dL_measure_0 rfl (lv_at hl 2 rfl) ?_
  refine lv_iconst (v := 0) hx hb dL_measure_1 (by decide) ?_
  refine lv_aload_n hx hb dL_measure_2 rfl (lv_at hl 0 rfl) ?_
  refine lv_iload_n hx hb dL_measure_3 rfl (lv_at hl 1 rfl) ?_
  refine callX_i (As := [.int p0]) (rest := [.int 0, .ref o]) (wr := [(o, .inl (cJ, 1, .inr (.inl ov)))]) ⟨hx, hb, hml, hown, hts⟩ hM (cwV 1 hts gL_measure_X6_measure rfl rfl rfl (by decide +kernel) ⟨by show rmX.frames + 1 ≤ 7; omega, by show 8 + (2 + 11) + rmX.locals ≤ 230; omega⟩) hK hN hxs hzs hP hD hS hA 6 0 hg rfl rfl rfl rfl hl.1 (Nat.le_of_ble_eq_true rfl) dL_measure_4 ⟨Nat.le_of_eq (Nat.zero_add _), Nat.le_of_eq (Nat.zero_add _)⟩ (fun hk0 ce q9 H locs hP hD hS hce hcv hcl => ?_) (fun hk0 H locs hP hD hS => ?_)
  · have hk : K = 1 := hk.resolve_left hk0
    refine vx_catch (own := RL) (name := eA) (E := eA) hown [] ⟨0, 9, 12, 13⟩ [] htab (fun z hz => absurd hz List.not_mem_nil) rfl (by decide) (hts (.classLink RL 13 eA) (by decide +kernel)) (va_Nw.use rfl hxs.2.2.2.1) hce hcv hcl ?_
    refine lv_astore_n (lv' := [(3, .ref q9), (0, .ref g0), (1, .int p0), (2, .ref o)]) hx hb dL_measure_12 rfl hl (by decide) rfl (fun ls hl => ?_)
    refine lv_iconst (v := 1) hx hb dL_measure_13 (by decide) ?_
    exact hret () _ _ _ _ _ _ _ _ hk.symm (by rw [hk, if_neg (by decide)]; rfl) hP hD hS (Nat.le_of_eq (Nat.zero_add _)) (Nat.le_of_eq (Nat.zero_add _)) dL_measure_14
  · refine lv_i2l hx hb dL_measure_7 rfl ?_
    refine r_last hx hb hK hP hD hS 0 1 rfl rfl 0 rfl (Nat.le_of_ble_eq_true rfl) (Nat.le_of_ble_eq_true rfl) dL_measure_8 (fun H locs hP hD hS => ?_)
    refine lv_goto (tgt := 15) hx hb dL_measure_9 (by decide) ?_
    refine lv_iconst (v := 0) hx hb dL_measure_15 (by decide) ?_
    exact hret () _ _ _ _ _ _ _ _ hk0.symm (by rw [if_pos hk0]; rfl) hP hD hS (Nat.le_of_eq (Nat.zero_add _)) (Nat.le_of_eq (Nat.zero_add _)) dL_measure_16

set_option maxHeartbeats 4000000 in
set_option maxRecDepth 100000 in
theorem hL_violations (l : Launch) (D : va_G) (cI cJ cZ cO : ClassId) (g0 : Nat) (p0 : Int32) (o : Nat) (ov : Nat → Int64) (rmX : Room) (hr1 : rmX.frames = 6) (hr2 : rmX.locals ≤ 180) (wc : va_W) (wc1 : va_W) (K R : Int32) (fs : List Value) (hg : wc[0]? = some (g0, .inr (6, fs))) (hk : K = 0 ∨ K = 1) (hM : MXI l yX6_violations wsX6_violations rmX D (tysK cI cJ cZ cO) [.ref g0, .int p0] wc K R wc1 (fun _ => eB)) :
    HI l yL_violations wsL_violations ({ frames := 7, cells := rmX.cells, slots := rmX.slots, locals := 230 } : Room) D (tysK cI cJ cZ cO) [.ref g0, .int p0, .ref o] ((o, .inl (cJ, 1, .inr (.inl ov))) :: wc) K (fun (_ : Unit) => (o, .inl (cJ, 1, .inr (.inl (if K = 0 then vp_updL ov 0 R.toInt64 else ov)))) :: wc1) := by
  refine HI.of (cc := cL_violations) (maxL := 4) (hh := [(0, 9, 12, 54)]) (by decide) rfl (Nat.le_of_ble_eq_true rfl) ?_
  intro p e s m args below meth c A Q ls H locs B hxs hzs htab hS hP hD hl hret
  obtain ⟨hx, hb, hml, hown, hts, hK, hN, hA, hlocks⟩ := B
  have hl : lv_has ls 4 [(0, .ref g0), (1, .int p0), (2, .ref o)] := hl
  refine lv_aload_n hx hb dL_violations_0 rfl (lv_at hl 2 rfl) ?_
  refine lv_iconst (v := 0) hx hb dL_violations_1 (by decide) ?_
  refine lv_aload_n hx hb dL_violations_2 rfl (lv_at hl 0 rfl) ?_
  refine lv_iload_n hx hb dL_violations_3 rfl (lv_at hl 1 rfl) ?_
  refine callX_i (As := [.int p0]) (rest := [.int 0, .ref o]) (wr := [(o, .inl (cJ, 1, .inr (.inl ov)))]) ⟨hx, hb, hml, hown, hts⟩ hM (cwV 1 hts gL_violations_X6_violations rfl rfl rfl (by decide +kernel) ⟨by show rmX.frames + 1 ≤ 7; omega, by show 8 + (3 + 11) + rmX.locals ≤ 230; omega⟩) hK hN hxs hzs hP hD hS hA 6 0 hg rfl rfl rfl rfl hl.1 (Nat.le_of_ble_eq_true rfl) dL_violations_4 ⟨Nat.le_of_eq (Nat.zero_add _), Nat.le_of_eq (Nat.zero_add _)⟩ (fun hk0 ce q9 H locs hP hD hS hce hcv hcl => ?_) (fun hk0 H locs hP hD hS => ?_)
  · have hk : K = 1 := hk.resolve_left hk0
    refine vx_catch (own := RL) (name := eB) (E := eB) hown [] ⟨0, 9, 12, 54⟩ [] htab (fun z hz => absurd hz List.not_mem_nil) rfl (by decide) (hts (.classLink RL 54 eB) (by decide +kernel)) (va_Nw.use rfl hxs.2.2.2.2.2.1) hce hcv hcl ?_
    refine lv_astore_n (lv' := [(3, .ref q9), (0, .ref g0), (1, .int p0), (2, .ref o)]) hx hb dL_violations_12 rfl hl (by decide) rfl (fun ls hl => ?_)
    refine lv_iconst (v := 1) hx hb dL_violations_13 (by decide) ?_
    exact hret () _ _ _ _ _ _ _ _ hk.symm (by rw [hk, if_neg (by decide)]; rfl) hP hD hS (Nat.le_of_eq (Nat.zero_add _)) (Nat.le_of_eq (Nat.zero_add _)) dL_violations_14
  · refine lv_i2l hx hb dL_violations_7 rfl ?_
    refine r_last hx hb hK hP hD hS 0 1 rfl rfl 0 rfl (Nat.le_of_ble_eq_true rfl) (Nat.le_of_ble_eq_true rfl) dL_violations_8 (fun H locs hP hD hS => ?_)
    refine lv_goto (tgt := 15) hx hb dL_violations_9 (by decide) ?_
    refine lv_iconst (v := 0) hx hb dL_violations_15 (by decide) ?_
    exact hret () _ _ _ _ _ _ _ _ hk0.symm (by rw [if_pos hk0]; rfl) hP hD hS (Nat.le_of_eq (Nat.zero_add _)) (Nat.le_of_eq (Nat.zero_add _)) dL_violations_16

set_option maxHeartbeats 4000000 in
set_option maxRecDepth 100000 in
theorem hL_event (l : Launch) (D : va_G) (cI cJ cZ cO : ClassId) (g0 : Nat) (p0 : Int32) (p1 : Int32) (o : Nat) (ov : Nat → Int64) (rmX : Room) (hr1 : rmX.frames = 6) (hr2 : rmX.locals ≤ 180) (wc : va_W) (wc1 : va_W) (K R : Int32) (fs : List Value) (hg : wc[0]? = some (g0, .inr (6, fs))) (hk : K = 0 ∨ K = 1) (hM : MXI l yX6_event wsX6_event rmX D (tysK cI cJ cZ cO) [.ref g0, .int p0, .int p1] wc K R wc1 (fun _ => eA)) :
    HI l yL_event wsL_event ({ frames := 7, cells := rmX.cells, slots := rmX.slots, locals := 230 } : Room) D (tysK cI cJ cZ cO) [.ref g0, .int p0, .int p1, .ref o] ((o, .inl (cJ, 1, .inr (.inl ov))) :: wc) K (fun (_ : Unit) => (o, .inl (cJ, 1, .inr (.inl (if K = 0 then vp_updL ov 0 R.toInt64 else ov)))) :: wc1) := by
  refine HI.of (cc := cL_event) (maxL := 5) (hh := [(0, 10, 13, 13)]) (by decide) rfl (Nat.le_of_ble_eq_true rfl) ?_
  intro p e s m args below meth c A Q ls H locs B hxs hzs htab hS hP hD hl hret
  obtain ⟨hx, hb, hml, hown, hts, hK, hN, hA, hlocks⟩ := B
  have hl : lv_has ls 5 [(0, .ref g0), (1, .int p0), (2, .int p1), (3, .ref o)] := hl
  refine lv_aload_n hx hb dL_event_0 rfl (lv_at hl 3 rfl) ?_
  refine lv_iconst (v := 0) hx hb dL_event_1 (by decide) ?_
  refine lv_aload_n hx hb dL_event_2 rfl (lv_at hl 0 rfl) ?_
  refine lv_iload_n hx hb dL_event_3 rfl (lv_at hl 1 rfl) ?_
  refine lv_iload_n hx hb dL_event_4 rfl (lv_at hl 2 rfl) ?_
  refine callX_i (As := [.int p0, .int p1]) (rest := [.int 0, .ref o]) (wr := [(o, .inl (cJ, 1, .inr (.inl ov)))]) ⟨hx, hb, hml, hown, hts⟩ hM (cwV 2 hts gL_event_X6_event rfl rfl rfl (by decide +kernel) ⟨by show rmX.frames + 1 ≤ 7; omega, by show 8 + (3 + 11) + rmX.locals ≤ 230; omega⟩) hK hN hxs hzs hP hD hS hA 6 0 hg rfl rfl rfl rfl hl.1 (Nat.le_of_ble_eq_true rfl) dL_event_5 ⟨Nat.le_of_eq (Nat.zero_add _), Nat.le_of_eq (Nat.zero_add _)⟩ (fun hk0 ce q9 H locs hP hD hS hce hcv hcl => ?_) (fun hk0 H locs hP hD hS => ?_)
  · have hk : K = 1 := hk.resolve_left hk0
    refine vx_catch (own := RL) (name := eA) (E := eA) hown [] ⟨0, 10, 13, 13⟩ [] htab (fun z hz => absurd hz List.not_mem_nil) rfl (by decide) (hts (.classLink RL 13 eA) (by decide +kernel)) (va_Nw.use rfl hxs.2.2.2.1) hce hcv hcl ?_
    refine lv_astore (lv' := [(4, .ref q9), (0, .ref g0), (1, .int p0), (2, .int p1), (3, .ref o)]) hx hb dL_event_13 hl (by decide) rfl (fun ls hl => ?_)
    refine lv_iconst (v := 1) hx hb dL_event_15 (by decide) ?_
    exact hret () _ _ _ _ _ _ _ _ hk.symm (by rw [hk, if_neg (by decide)]; rfl) hP hD hS (Nat.le_of_eq (Nat.zero_add _)) (Nat.le_of_eq (Nat.zero_add _)) dL_event_16
  · refine lv_i2l hx hb dL_event_8 rfl ?_
    refine r_last hx hb hK hP hD hS 0 1 rfl rfl 0 rfl (Nat.le_of_ble_eq_true rfl) (Nat.le_of_ble_eq_true rfl) dL_event_9 (fun H locs hP hD hS => ?_)
    refine lv_goto (tgt := 17) hx hb dL_event_10 (by decide) ?_
    refine lv_iconst (v := 0) hx hb dL_event_17 (by decide) ?_
    exact hret () _ _ _ _ _ _ _ _ hk0.symm (by rw [if_pos hk0]; rfl) hP hD hS (Nat.le_of_eq (Nat.zero_add _)) (Nat.le_of_eq (Nat.zero_add _)) dL_event_18

set_option maxHeartbeats 4000000 in
set_option maxRecDepth 100000 in
theorem hL_islandTime (l : Launch) (D : va_G) (cI cJ cZ cO : ClassId) (g0 : Nat) (p0 : Int32) (p1 : Int32) (p2 : Int32) (p3 : Int32) (o : Nat) (ov : Nat → Int64) (rmX : Room) (hr1 : rmX.frames = 6) (hr2 : rmX.locals ≤ 180) (wc : va_W) (wc1 : va_W) (K R : Int32) (fs : List Value) (hg : wc[0]? = some (g0, .inr (6, fs))) (hk : K = 0 ∨ K = 1 ∨ K = 2) (hM : MXI l yX6_islandTime wsX6_islandTime rmX D (tysK cI cJ cZ cO) [.ref g0, .int p0, .int p1, .int p2, .int p3] wc K R wc1 (fun k => if k = 1 then eA else eS)) :
    HI l yL_islandTime wsL_islandTime ({ frames := 7, cells := rmX.cells, slots := rmX.slots, locals := 230 } : Room) D (tysK cI cJ cZ cO) [.ref g0, .int p0, .int p1, .int p2, .int p3, .ref o] ((o, .inl (cJ, 1, .inr (.inl ov))) :: wc) K (fun (_ : Unit) => (o, .inl (cJ, 1, .inr (.inl (if K = 0 then vp_updL ov 0 R.toInt64 else ov)))) :: wc1) := by
  refine HI.of (cc := cL_islandTime) (maxL := 7) (hh := [(0, 14, 17, 13), (0, 14, 21, 43)]) (by decide) rfl (Nat.le_of_ble_eq_true rfl) ?_
  intro p e s m args below meth c A Q ls H locs B hxs hzs htab hS hP hD hl hret
  obtain ⟨hx, hb, hml, hown, hts, hK, hN, hA, hlocks⟩ := B
  have hl : lv_has ls 7 [(0, .ref g0), (1, .int p0), (2, .int p1), (3, .int p2), (4, .int p3), (5, .ref o)] := hl
  refine lv_aload hx hb dL_islandTime_0 (lv_at hl 5 rfl) ?_
  refine lv_iconst (v := 0) hx hb dL_islandTime_2 (by decide) ?_
  refine lv_aload_n hx hb dL_islandTime_3 rfl (lv_at hl 0 rfl) ?_
  refine lv_iload_n hx hb dL_islandTime_4 rfl (lv_at hl 1 rfl) ?_
  refine lv_iload_n hx hb dL_islandTime_5 rfl (lv_at hl 2 rfl) ?_
  refine lv_iload_n hx hb dL_islandTime_6 rfl (lv_at hl 3 rfl) ?_
  refine lv_iload hx hb dL_islandTime_7 (lv_at hl 4 rfl) ?_
  refine callX_i (As := [.int p0, .int p1, .int p2, .int p3]) (rest := [.int 0, .ref o]) (wr := [(o, .inl (cJ, 1, .inr (.inl ov)))]) ⟨hx, hb, hml, hown, hts⟩ hM (cwV 4 hts gL_islandTime_X6_islandTime rfl rfl rfl (by decide +kernel) ⟨by show rmX.frames + 1 ≤ 7; omega, by show 8 + (5 + 11) + rmX.locals ≤ 230; omega⟩) hK hN hxs hzs hP hD hS hA 6 0 hg rfl rfl rfl rfl hl.1 (Nat.le_of_ble_eq_true rfl) dL_islandTime_9 ⟨Nat.le_of_eq (Nat.zero_add _), Nat.le_of_eq (Nat.zero_add _)⟩ (fun hk0 ce q9 H locs hP hD hS hce hcv hcl => ?_) (fun hk0 H locs hP hD hS => ?_)
  · rcases hk with hk | hk | hk
    · exact absurd hk hk0
    · refine vx_catch (own := RL) (name := eA) (E := eA) hown [] ⟨0, 14, 17, 13⟩ [⟨0, 14, 21, 43⟩] htab (fun z hz => absurd hz List.not_mem_nil) rfl (by decide) (hts (.classLink RL 13 eA) (by decide +kernel)) (va_Nw.use rfl hxs.2.2.2.1) hce hcv (by rw [hk] at hcl; exact hcl) ?_
      refine lv_astore (lv' := [(6, .ref q9), (0, .ref g0), (1, .int p0), (2, .int p1), (3, .int p2), (4, .int p3), (5, .ref o)]) hx hb dL_islandTime_17 hl (by decide) rfl (fun ls hl => ?_)
      refine lv_iconst (v := 1) hx hb dL_islandTime_19 (by decide) ?_
      exact hret () _ _ _ _ _ _ _ _ hk.symm (by rw [hk, if_neg (by decide)]; rfl) hP hD hS (Nat.le_of_eq (Nat.zero_add _)) (Nat.le_of_eq (Nat.zero_add _)) dL_islandTime_20
    · refine vx_catch (own := RL) (name := eS) (E := eS) hown [⟨0, 14, 17, 13⟩] ⟨0, 14, 21, 43⟩ [] htab (fun z hz => by cases List.mem_singleton.mp hz; exact Or.inr ⟨by decide, eA, hts (.classLink RL 13 eA) (by decide +kernel), hxs.2.2.2.2.2.2.2⟩) rfl (by decide) (hts (.classLink RL 43 eS) (by decide +kernel)) (va_Nw.use rfl hxs.2.2.2.2.1) hce hcv (by rw [hk] at hcl; exact hcl) ?_
      refine lv_astore (lv' := [(6, .ref q9), (0, .ref g0), (1, .int p0), (2, .int p1), (3, .int p2), (4, .int p3), (5, .ref o)]) hx hb dL_islandTime_21 hl (by decide) rfl (fun ls hl => ?_)
      refine lv_iconst (v := 2) hx hb dL_islandTime_23 (by decide) ?_
      exact hret () _ _ _ _ _ _ _ _ hk.symm (by rw [hk, if_neg (by decide)]; rfl) hP hD hS (Nat.le_of_eq (Nat.zero_add _)) (Nat.le_of_eq (Nat.zero_add _)) dL_islandTime_24
  · refine lv_i2l hx hb dL_islandTime_12 rfl ?_
    refine r_last hx hb hK hP hD hS 0 1 rfl rfl 0 rfl (Nat.le_of_ble_eq_true rfl) (Nat.le_of_ble_eq_true rfl) dL_islandTime_13 (fun H locs hP hD hS => ?_)
    refine lv_goto (tgt := 25) hx hb dL_islandTime_14 (by decide) ?_
    refine lv_iconst (v := 0) hx hb dL_islandTime_25 (by decide) ?_
    exact hret () _ _ _ _ _ _ _ _ hk0.symm (by rw [if_pos hk0]; rfl) hP hD hS (Nat.le_of_eq (Nat.zero_add _)) (Nat.le_of_eq (Nat.zero_add _)) dL_islandTime_26

set_option maxHeartbeats 4000000 in
set_option maxRecDepth 100000 in
theorem hL_undetected (l : Launch) (D : va_G) (cI cJ cZ cO : ClassId) (g0 : Nat) (p0 : Int32) (p1 : Int32) (p2 : Int32) (p3 : Int32) (o : Nat) (ov : Nat → Int64) (rmX : Room) (hr1 : rmX.frames = 6) (hr2 : rmX.locals ≤ 180) (wc : va_W) (wc1 : va_W) (K R : Int32) (fs : List Value) (hg : wc[0]? = some (g0, .inr (6, fs))) (hk : K = 0 ∨ K = 1 ∨ K = 2) (hM : MXI l yX6_undetected wsX6_undetected rmX D (tysK cI cJ cZ cO) [.ref g0, .int p0, .int p1, .int p2, .int p3] wc K R wc1 (fun k => if k = 1 then eA else eS)) :
    HI l yL_undetected wsL_undetected ({ frames := 7, cells := rmX.cells, slots := rmX.slots, locals := 230 } : Room) D (tysK cI cJ cZ cO) [.ref g0, .int p0, .int p1, .int p2, .int p3, .ref o] ((o, .inl (cJ, 1, .inr (.inl ov))) :: wc) K (fun (_ : Unit) => (o, .inl (cJ, 1, .inr (.inl (if K = 0 then vp_updL ov 0 R.toInt64 else ov)))) :: wc1) := by
  refine HI.of (cc := cL_undetected) (maxL := 7) (hh := [(0, 14, 17, 13), (0, 14, 21, 43)]) (by decide) rfl (Nat.le_of_ble_eq_true rfl) ?_
  intro p e s m args below meth c A Q ls H locs B hxs hzs htab hS hP hD hl hret
  obtain ⟨hx, hb, hml, hown, hts, hK, hN, hA, hlocks⟩ := B
  have hl : lv_has ls 7 [(0, .ref g0), (1, .int p0), (2, .int p1), (3, .int p2), (4, .int p3), (5, .ref o)] := hl
  refine lv_aload hx hb dL_undetected_0 (lv_at hl 5 rfl) ?_
  refine lv_iconst (v := 0) hx hb dL_undetected_2 (by decide) ?_
  refine lv_aload_n hx hb dL_undetected_3 rfl (lv_at hl 0 rfl) ?_
  refine lv_iload_n hx hb dL_undetected_4 rfl (lv_at hl 1 rfl) ?_
  refine lv_iload_n hx hb dL_undetected_5 rfl (lv_at hl 2 rfl) ?_
  refine lv_iload_n hx hb dL_undetected_6 rfl (lv_at hl 3 rfl) ?_
  refine lv_iload hx hb dL_undetected_7 (lv_at hl 4 rfl) ?_
  refine callX_i (As := [.int p0, .int p1, .int p2, .int p3]) (rest := [.int 0, .ref o]) (wr := [(o, .inl (cJ, 1, .inr (.inl ov)))]) ⟨hx, hb, hml, hown, hts⟩ hM (cwV 4 hts gL_undetected_X6_undetected rfl rfl rfl (by decide +kernel) ⟨by show rmX.frames + 1 ≤ 7; omega, by show 8 + (8 + 11) + rmX.locals ≤ 230; omega⟩) hK hN hxs hzs hP hD hS hA 6 0 hg rfl rfl rfl rfl hl.1 (Nat.le_of_ble_eq_true rfl) dL_undetected_9 ⟨Nat.le_of_eq (Nat.zero_add _), Nat.le_of_eq (Nat.zero_add _)⟩ (fun hk0 ce q9 H locs hP hD hS hce hcv hcl => ?_) (fun hk0 H locs hP hD hS => ?_)
  · rcases hk with hk | hk | hk
    · exact absurd hk hk0
    · refine vx_catch (own := RL) (name := eA) (E := eA) hown [] ⟨0, 14, 17, 13⟩ [⟨0, 14, 21, 43⟩] htab (fun z hz => absurd hz List.not_mem_nil) rfl (by decide) (hts (.classLink RL 13 eA) (by decide +kernel)) (va_Nw.use rfl hxs.2.2.2.1) hce hcv (by rw [hk] at hcl; exact hcl) ?_
      refine lv_astore (lv' := [(6, .ref q9), (0, .ref g0), (1, .int p0), (2, .int p1), (3, .int p2), (4, .int p3), (5, .ref o)]) hx hb dL_undetected_17 hl (by decide) rfl (fun ls hl => ?_)
      refine lv_iconst (v := 1) hx hb dL_undetected_19 (by decide) ?_
      exact hret () _ _ _ _ _ _ _ _ hk.symm (by rw [hk, if_neg (by decide)]; rfl) hP hD hS (Nat.le_of_eq (Nat.zero_add _)) (Nat.le_of_eq (Nat.zero_add _)) dL_undetected_20
    · refine vx_catch (own := RL) (name := eS) (E := eS) hown [⟨0, 14, 17, 13⟩] ⟨0, 14, 21, 43⟩ [] htab (fun z hz => by cases List.mem_singleton.mp hz; exact Or.inr ⟨by decide, eA, hts (.classLink RL 13 eA) (by decide +kernel), hxs.2.2.2.2.2.2.2⟩) rfl (by decide) (hts (.classLink RL 43 eS) (by decide +kernel)) (va_Nw.use rfl hxs.2.2.2.2.1) hce hcv (by rw [hk] at hcl; exact hcl) ?_
      refine lv_astore (lv' := [(6, .ref q9), (0, .ref g0), (1, .int p0), (2, .int p1), (3, .int p2), (4, .int p3), (5, .ref o)]) hx hb dL_undetected_21 hl (by decide) rfl (fun ls hl => ?_)
      refine lv_iconst (v := 2) hx hb dL_undetected_23 (by decide) ?_
      exact hret () _ _ _ _ _ _ _ _ hk.symm (by rw [hk, if_neg (by decide)]; rfl) hP hD hS (Nat.le_of_eq (Nat.zero_add _)) (Nat.le_of_eq (Nat.zero_add _)) dL_undetected_24
  · refine lv_i2l hx hb dL_undetected_12 rfl ?_
    refine r_last hx hb hK hP hD hS 0 1 rfl rfl 0 rfl (Nat.le_of_ble_eq_true rfl) (Nat.le_of_ble_eq_true rfl) dL_undetected_13 (fun H locs hP hD hS => ?_)
    refine lv_goto (tgt := 25) hx hb dL_undetected_14 (by decide) ?_
    refine lv_iconst (v := 0) hx hb dL_undetected_25 (by decide) ?_
    exact hret () _ _ _ _ _ _ _ _ hk0.symm (by rw [if_pos hk0]; rfl) hP hD hS (Nat.le_of_eq (Nat.zero_add _)) (Nat.le_of_eq (Nat.zero_add _)) dL_undetected_26

set_option maxHeartbeats 4000000 in
set_option maxRecDepth 100000 in
theorem hL_relockTime (l : Launch) (D : va_G) (cI cJ cZ cO : ClassId) (g0 : Nat) (p0 : Int32) (p1 : Int32) (o : Nat) (ov : Nat → Int64) (rmX : Room) (hr1 : rmX.frames = 6) (hr2 : rmX.locals ≤ 180) (wc : va_W) (wc1 : va_W) (K R : Int32) (fs : List Value) (hg : wc[0]? = some (g0, .inr (6, fs))) (hk : K = 0 ∨ K = 1) (hM : MXI l yX6_relockTime wsX6_relockTime rmX D (tysK cI cJ cZ cO) [.ref g0, .int p0, .int p1] wc K R wc1 (fun _ => eA)) :
    HI l yL_relockTime wsL_relockTime ({ frames := 7, cells := rmX.cells, slots := rmX.slots, locals := 230 } : Room) D (tysK cI cJ cZ cO) [.ref g0, .int p0, .int p1, .ref o] ((o, .inl (cJ, 1, .inr (.inl ov))) :: wc) K (fun (_ : Unit) => (o, .inl (cJ, 1, .inr (.inl (if K = 0 then vp_updL ov 0 R.toInt64 else ov)))) :: wc1) := by
  refine HI.of (cc := cL_relockTime) (maxL := 5) (hh := [(0, 10, 13, 13)]) (by decide) rfl (Nat.le_of_ble_eq_true rfl) ?_
  intro p e s m args below meth c A Q ls H locs B hxs hzs htab hS hP hD hl hret
  obtain ⟨hx, hb, hml, hown, hts, hK, hN, hA, hlocks⟩ := B
  have hl : lv_has ls 5 [(0, .ref g0), (1, .int p0), (2, .int p1), (3, .ref o)] := hl
  refine lv_aload_n hx hb dL_relockTime_0 rfl (lv_at hl 3 rfl) ?_
  refine lv_iconst (v := 0) hx hb dL_relockTime_1 (by decide) ?_
  refine lv_aload_n hx hb dL_relockTime_2 rfl (lv_at hl 0 rfl) ?_
  refine lv_iload_n hx hb dL_relockTime_3 rfl (lv_at hl 1 rfl) ?_
  refine lv_iload_n hx hb dL_relockTime_4 rfl (lv_at hl 2 rfl) ?_
  refine callX_i (As := [.int p0, .int p1]) (rest := [.int 0, .ref o]) (wr := [(o, .inl (cJ, 1, .inr (.inl ov)))]) ⟨hx, hb, hml, hown, hts⟩ hM (cwV 2 hts gL_relockTime_X6_relockTime rfl rfl rfl (by decide +kernel) ⟨by show rmX.frames + 1 ≤ 7; omega, by show 8 + (4 + 11) + rmX.locals ≤ 230; omega⟩) hK hN hxs hzs hP hD hS hA 6 0 hg rfl rfl rfl rfl hl.1 (Nat.le_of_ble_eq_true rfl) dL_relockTime_5 ⟨Nat.le_of_eq (Nat.zero_add _), Nat.le_of_eq (Nat.zero_add _)⟩ (fun hk0 ce q9 H locs hP hD hS hce hcv hcl => ?_) (fun hk0 H locs hP hD hS => ?_)
  · have hk : K = 1 := hk.resolve_left hk0
    refine vx_catch (own := RL) (name := eA) (E := eA) hown [] ⟨0, 10, 13, 13⟩ [] htab (fun z hz => absurd hz List.not_mem_nil) rfl (by decide) (hts (.classLink RL 13 eA) (by decide +kernel)) (va_Nw.use rfl hxs.2.2.2.1) hce hcv hcl ?_
    refine lv_astore (lv' := [(4, .ref q9), (0, .ref g0), (1, .int p0), (2, .int p1), (3, .ref o)]) hx hb dL_relockTime_13 hl (by decide) rfl (fun ls hl => ?_)
    refine lv_iconst (v := 1) hx hb dL_relockTime_15 (by decide) ?_
    exact hret () _ _ _ _ _ _ _ _ hk.symm (by rw [hk, if_neg (by decide)]; rfl) hP hD hS (Nat.le_of_eq (Nat.zero_add _)) (Nat.le_of_eq (Nat.zero_add _)) dL_relockTime_16
  · refine lv_i2l hx hb dL_relockTime_8 rfl ?_
    refine r_last hx hb hK hP hD hS 0 1 rfl rfl 0 rfl (Nat.le_of_ble_eq_true rfl) (Nat.le_of_ble_eq_true rfl) dL_relockTime_9 (fun H locs hP hD hS => ?_)
    refine lv_goto (tgt := 17) hx hb dL_relockTime_10 (by decide) ?_
    refine lv_iconst (v := 0) hx hb dL_relockTime_17 (by decide) ?_
    exact hret () _ _ _ _ _ _ _ _ hk0.symm (by rw [if_pos hk0]; rfl) hP hD hS (Nat.le_of_eq (Nat.zero_add _)) (Nat.le_of_eq (Nat.zero_add _)) dL_relockTime_18

set_option maxHeartbeats 4000000 in
set_option maxRecDepth 100000 in
theorem hL_save (l : Launch) (D : va_G) (cI cJ cZ cO : ClassId) (g0 : Nat) (p0 : Int32) (rmX : Room) (hr1 : rmX.frames = 6) (hr2 : rmX.locals ≤ 180) {S0 : Type} (wc : va_W) (wc1 : S0 → va_W) (K : Int32) (fs : List Value) (hg : wc[0]? = some (g0, .inr (6, fs))) (hk : K = 0 ∨ K = 1) (hM : MXV l yX6_save wsX6_save rmX D (tysK cI cJ cZ cO) [.ref g0, .int p0] wc K wc1 (fun _ => eA)) :
    HI l yL_save wsL_save ({ frames := 7, cells := rmX.cells, slots := rmX.slots, locals := 230 } : Room) D (tysK cI cJ cZ cO) [.ref g0, .int p0] (wc) K wc1 := by
  refine HI.of (cc := cL_save) (maxL := 3) (hh := [(0, 5, 8, 13)]) (by decide) rfl (Nat.le_of_ble_eq_true rfl) ?_
  intro p e s m args below meth c A Q ls H locs B hxs hzs htab hS hP hD hl hret
  obtain ⟨hx, hb, hml, hown, hts, hK, hN, hA, hlocks⟩ := B
  have hl : lv_has ls 3 [(0, .ref g0), (1, .int p0)] := hl
  refine lv_aload_n hx hb dL_save_0 rfl (lv_at hl 0 rfl) ?_
  refine lv_iload_n hx hb dL_save_1 rfl (lv_at hl 1 rfl) ?_
  refine callX_v (As := [.int p0]) (rest := []) (wr := []) ⟨hx, hb, hml, hown, hts⟩ hM (cwV 1 hts gL_save_X6_save rfl rfl rfl (by decide +kernel) ⟨by show rmX.frames + 1 ≤ 7; omega, by show 8 + (3 + 11) + rmX.locals ≤ 230; omega⟩) hK hN hxs hzs hP hD hS hA 6 0 hg rfl rfl rfl rfl hl.1 (Nat.le_of_ble_eq_true rfl) dL_save_2 ⟨Nat.le_of_eq (Nat.zero_add _), Nat.le_of_eq (Nat.zero_add _)⟩ (fun hk0 u ce q9 H locs hP hD hS hce hcv hcl => ?_) (fun hk0 u H locs hP hD hS => ?_)
  · have hk : K = 1 := hk.resolve_left hk0
    refine vx_catch (own := RL) (name := eA) (E := eA) hown [] ⟨0, 5, 8, 13⟩ [] htab (fun z hz => absurd hz List.not_mem_nil) rfl (by decide) (hts (.classLink RL 13 eA) (by decide +kernel)) (va_Nw.use rfl hxs.2.2.2.1) hce hcv hcl ?_
    refine lv_astore_n (lv' := [(2, .ref q9), (0, .ref g0), (1, .int p0)]) hx hb dL_save_8 rfl hl (by decide) rfl (fun ls hl => ?_)
    refine lv_iconst (v := 1) hx hb dL_save_9 (by decide) ?_
    exact hret u _ _ _ _ _ _ _ _ hk.symm (rfl) hP hD hS (Nat.le_of_eq (Nat.zero_add _)) (Nat.le_of_eq (Nat.zero_add _)) dL_save_10
  · refine lv_goto (tgt := 11) hx hb dL_save_5 (by decide) ?_
    refine lv_iconst (v := 0) hx hb dL_save_11 (by decide) ?_
    exact hret u _ _ _ _ _ _ _ _ hk0.symm (rfl) hP hD hS (Nat.le_of_eq (Nat.zero_add _)) (Nat.le_of_eq (Nat.zero_add _)) dL_save_12

set_option maxHeartbeats 4000000 in
set_option maxRecDepth 100000 in
theorem hL_restore (l : Launch) (D : va_G) (cI cJ cZ cO : ClassId) (g0 : Nat) (p0 : Int32) (rmX : Room) (hr1 : rmX.frames = 6) (hr2 : rmX.locals ≤ 180) {S0 : Type} (wc : va_W) (wc1 : S0 → va_W) (K : Int32) (fs : List Value) (hg : wc[0]? = some (g0, .inr (6, fs))) (hk : K = 0 ∨ K = 1 ∨ K = 2) (hM : MXV l yX6_restore wsX6_restore rmX D (tysK cI cJ cZ cO) [.ref g0, .int p0] wc K wc1 (fun k => if k = 1 then eA else eS)) :
    HI l yL_restore wsL_restore ({ frames := 7, cells := rmX.cells, slots := rmX.slots, locals := 230 } : Room) D (tysK cI cJ cZ cO) [.ref g0, .int p0] (wc) K wc1 := by
  refine HI.of (cc := cL_restore) (maxL := 3) (hh := [(0, 5, 8, 13), (0, 5, 11, 43)]) (by decide) rfl (Nat.le_of_ble_eq_true rfl) ?_
  intro p e s m args below meth c A Q ls H locs B hxs hzs htab hS hP hD hl hret
  obtain ⟨hx, hb, hml, hown, hts, hK, hN, hA, hlocks⟩ := B
  have hl : lv_has ls 3 [(0, .ref g0), (1, .int p0)] := hl
  refine lv_aload_n hx hb dL_restore_0 rfl (lv_at hl 0 rfl) ?_
  refine lv_iload_n hx hb dL_restore_1 rfl (lv_at hl 1 rfl) ?_
  refine callX_v (As := [.int p0]) (rest := []) (wr := []) ⟨hx, hb, hml, hown, hts⟩ hM (cwV 1 hts gL_restore_X6_restore rfl rfl rfl (by decide +kernel) ⟨by show rmX.frames + 1 ≤ 7; omega, by show 8 + (3 + 11) + rmX.locals ≤ 230; omega⟩) hK hN hxs hzs hP hD hS hA 6 0 hg rfl rfl rfl rfl hl.1 (Nat.le_of_ble_eq_true rfl) dL_restore_2 ⟨Nat.le_of_eq (Nat.zero_add _), Nat.le_of_eq (Nat.zero_add _)⟩ (fun hk0 u ce q9 H locs hP hD hS hce hcv hcl => ?_) (fun hk0 u H locs hP hD hS => ?_)
  · rcases hk with hk | hk | hk
    · exact absurd hk hk0
    · refine vx_catch (own := RL) (name := eA) (E := eA) hown [] ⟨0, 5, 8, 13⟩ [⟨0, 5, 11, 43⟩] htab (fun z hz => absurd hz List.not_mem_nil) rfl (by decide) (hts (.classLink RL 13 eA) (by decide +kernel)) (va_Nw.use rfl hxs.2.2.2.1) hce hcv (by rw [hk] at hcl; exact hcl) ?_
      refine lv_astore_n (lv' := [(2, .ref q9), (0, .ref g0), (1, .int p0)]) hx hb dL_restore_8 rfl hl (by decide) rfl (fun ls hl => ?_)
      refine lv_iconst (v := 1) hx hb dL_restore_9 (by decide) ?_
      exact hret u _ _ _ _ _ _ _ _ hk.symm (rfl) hP hD hS (Nat.le_of_eq (Nat.zero_add _)) (Nat.le_of_eq (Nat.zero_add _)) dL_restore_10
    · refine vx_catch (own := RL) (name := eS) (E := eS) hown [⟨0, 5, 8, 13⟩] ⟨0, 5, 11, 43⟩ [] htab (fun z hz => by cases List.mem_singleton.mp hz; exact Or.inr ⟨by decide, eA, hts (.classLink RL 13 eA) (by decide +kernel), hxs.2.2.2.2.2.2.2⟩) rfl (by decide) (hts (.classLink RL 43 eS) (by decide +kernel)) (va_Nw.use rfl hxs.2.2.2.2.1) hce hcv (by rw [hk] at hcl; exact hcl) ?_
      refine lv_astore_n (lv' := [(2, .ref q9), (0, .ref g0), (1, .int p0)]) hx hb dL_restore_11 rfl hl (by decide) rfl (fun ls hl => ?_)
      refine lv_iconst (v := 2) hx hb dL_restore_12 (by decide) ?_
      exact hret u _ _ _ _ _ _ _ _ hk.symm (rfl) hP hD hS (Nat.le_of_eq (Nat.zero_add _)) (Nat.le_of_eq (Nat.zero_add _)) dL_restore_13
  · refine lv_goto (tgt := 14) hx hb dL_restore_5 (by decide) ?_
    refine lv_iconst (v := 0) hx hb dL_restore_14 (by decide) ?_
    exact hret u _ _ _ _ _ _ _ _ hk0.symm (rfl) hP hD hS (Nat.le_of_eq (Nat.zero_add _)) (Nat.le_of_eq (Nat.zero_add _)) dL_restore_15
