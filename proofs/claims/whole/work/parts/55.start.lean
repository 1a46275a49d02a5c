section START
set_option maxRecDepth 20000 in
theorem tb_123 : Cond.instantiable RX0 14 ∈ lw_tbl := List.mem_append_right _ (List.mem_of_getElem? (i := 123) (by decide +kernel))
set_option maxRecDepth 20000 in
theorem tb_32 : Cond.instantiable RX1 9 ∈ lw_tbl := List.mem_append_right _ (List.mem_of_getElem? (i := 32) (by decide +kernel))
set_option maxRecDepth 20000 in
theorem tb_215 : Cond.instantiable RX2 3 ∈ lw_tbl := List.mem_append_right _ (List.mem_of_getElem? (i := 215) (by decide +kernel))
set_option maxRecDepth 20000 in
theorem tb_78 : Cond.instantiable RX3 9 ∈ lw_tbl := List.mem_append_right _ (List.mem_of_getElem? (i := 78) (by decide +kernel))
set_option maxRecDepth 20000 in
theorem tb_192 : Cond.instantiable RX4 5 ∈ lw_tbl := List.mem_append_right _ (List.mem_of_getElem? (i := 192) (by decide +kernel))
set_option maxRecDepth 20000 in
theorem tb_26 : Cond.instantiable RX5 6 ∈ lw_tbl := List.mem_append_right _ (List.mem_of_getElem? (i := 26) (by decide +kernel))
set_option maxRecDepth 20000 in
theorem tb_18 : Cond.instantiable RX6 3 ∈ lw_tbl := List.mem_append_right _ (List.mem_of_getElem? (i := 18) (by decide +kernel))
set_option maxRecDepth 20000 in
theorem tb_731 : Cond.instantiable RX7 7 ∈ lw_tbl := List.mem_append_right _ (List.mem_of_getElem? (i := 731) (by decide +kernel))
set_option maxRecDepth 20000 in
theorem tb_27 : Cond.methodLinkNest RX6 9 yX5_init RX6 ∈ lw_tbl := List.mem_append_right _ (List.mem_of_getElem? (i := 27) (by decide +kernel))
set_option maxRecDepth 20000 in
theorem tb_33 : Cond.methodLinkNest RX5 17 yX1_init RX6 ∈ lw_tbl := List.mem_append_right _ (List.mem_of_getElem? (i := 33) (by decide +kernel))
set_option maxRecDepth 20000 in
theorem tb_124 : Cond.methodLinkNest RX5 31 yX0_init RX6 ∈ lw_tbl := List.mem_append_right _ (List.mem_of_getElem? (i := 124) (by decide +kernel))
set_option maxRecDepth 20000 in
theorem tb_193 : Cond.methodLinkNest RX5 38 yX4_init RX6 ∈ lw_tbl := List.mem_append_right _ (List.mem_of_getElem? (i := 193) (by decide +kernel))
set_option maxRecDepth 20000 in
theorem tb_216 : Cond.methodLinkNest RX5 45 yX2_init RX6 ∈ lw_tbl := List.mem_append_right _ (List.mem_of_getElem? (i := 216) (by decide +kernel))
set_option maxRecDepth 20000 in
theorem tb_490 : Cond.methodLinkNest RX4 28 yX6_outside RX6 ∈ lw_tbl := List.mem_append_right _ (List.mem_of_getElem? (i := 490) (by decide +kernel))
set_option maxRecDepth 20000 in
theorem tb_539 : Cond.methodLinkNest RX1 58 yX6_limitedFrequency RX6 ∈ lw_tbl := List.mem_append_right _ (List.mem_of_getElem? (i := 539) (by decide +kernel))
set_option maxRecDepth 20000 in
theorem tb_554 : Cond.methodLinkNest RX3 49 yX6_limitedFrequency RX6 ∈ lw_tbl := List.mem_append_right _ (List.mem_of_getElem? (i := 554) (by decide +kernel))
set_option maxRecDepth 20000 in
theorem tb_555 : Cond.methodLinkNest RX3 53 yX6_outside RX6 ∈ lw_tbl := List.mem_append_right _ (List.mem_of_getElem? (i := 555) (by decide +kernel))
set_option maxRecDepth 20000 in
theorem tb_589 : Cond.methodLinkNest RX0 58 yX6_outside RX6 ∈ lw_tbl := List.mem_append_right _ (List.mem_of_getElem? (i := 589) (by decide +kernel))
set_option maxRecDepth 20000 in
theorem tb_680 : Cond.methodLinkNest RX3 57 yX6_copyRow RX6 ∈ lw_tbl := List.mem_append_right _ (List.mem_of_getElem? (i := 680) (by decide +kernel))
set_option maxRecDepth 20000 in
theorem tb_694 : Cond.methodLinkNest RX4 36 yX6_copyRow RX6 ∈ lw_tbl := List.mem_append_right _ (List.mem_of_getElem? (i := 694) (by decide +kernel))
set_option maxRecDepth 20000 in
theorem tb_699 : Cond.methodLinkNest RX2 32 yX6_copyRow RX6 ∈ lw_tbl := List.mem_append_right _ (List.mem_of_getElem? (i := 699) (by decide +kernel))
set_option maxRecDepth 20000 in
theorem tb_256 : Cond.arrayOver (.object RX5) ∈ lw_tbl := List.mem_append_right _ (List.mem_of_getElem? (i := 256) (by decide +kernel))
set_option maxRecDepth 20000 in
theorem tb_121 : Cond.arrayClass .int ∈ lw_tbl := List.mem_append_right _ (List.mem_of_getElem? (i := 121) (by decide +kernel))
set_option maxRecDepth 20000 in
theorem tb_761 : Cond.arrayClass .long ∈ lw_tbl := List.mem_append_right _ (List.mem_of_getElem? (i := 761) (by decide +kernel))
set_option maxRecDepth 20000 in
theorem tb_762 : Cond.arrayClass .boolean ∈ lw_tbl := List.mem_append_right _ (List.mem_of_getElem? (i := 762) (by decide +kernel))
set_option maxRecDepth 20000 in
theorem tb_339 : Cond.declares (iS "java/lang/RuntimeException") ∈ lw_tbl := List.mem_append_right _ (List.mem_of_getElem? (i := 339) (by decide +kernel))
set_option maxRecDepth 20000 in
theorem tb_341 : Cond.declares (iS "java/lang/Exception") ∈ lw_tbl := List.mem_append_right _ (List.mem_of_getElem? (i := 341) (by decide +kernel))
set_option maxRecDepth 20000 in
theorem tb_343 : Cond.declares (iS "java/lang/Throwable") ∈ lw_tbl := List.mem_append_right _ (List.mem_of_getElem? (i := 343) (by decide +kernel))
set_option maxRecDepth 20000 in
theorem tb_337 : Cond.castable eA eA ∈ lw_tbl := List.mem_append_right _ (List.mem_of_getElem? (i := 337) (by decide +kernel))
set_option maxRecDepth 20000 in
theorem tb_493 : Cond.castable eS eS ∈ lw_tbl := List.mem_append_right _ (List.mem_of_getElem? (i := 493) (by decide +kernel))
set_option maxRecDepth 20000 in
theorem tb_620 : Cond.castable eB eB ∈ lw_tbl := List.mem_append_right _ (List.mem_of_getElem? (i := 620) (by decide +kernel))
set_option maxRecDepth 20000 in
theorem tb_362 : Cond.laysStatic Bundle.tN "UNASSIGNED_STACK" Bundle.steD ∈ lw_tbl := List.mem_append_right _ (List.mem_of_getElem? (i := 362) (by decide +kernel))
set_option maxRecDepth 20000 in
theorem tb_364 : Cond.laysStatic Bundle.tN "SUPPRESSED_SENTINEL" Bundle.listD ∈ lw_tbl := List.mem_append_right _ (List.mem_of_getElem? (i := 364) (by decide +kernel))
set_option maxRecDepth 20000 in
theorem tb_9 : Cond.initialized Bundle.tN ∈ lw_tbl := List.mem_append_right _ (List.mem_of_getElem? (i := 9) (by decide +kernel))
set_option maxRecDepth 20000 in
theorem tb_1 : Cond.initialized RX6 ∈ lw_tbl := List.mem_append_right _ (List.mem_of_getElem? (i := 1) (by decide +kernel))
set_option maxRecDepth 20000 in
theorem tb_8 : Cond.initialized RX7 ∈ lw_tbl := List.mem_append_right _ (List.mem_of_getElem? (i := 8) (by decide +kernel))
set_option maxRecDepth 20000 in
theorem tb_19 : Cond.methodLink RL 77 yX6_init ∈ lw_tbl := List.mem_append_right _ (List.mem_of_getElem? (i := 19) (by decide +kernel))
set_option maxRecDepth 20000 in
theorem tb_732 : Cond.methodLink RL 80 yX7_init ∈ lw_tbl := List.mem_append_right _ (List.mem_of_getElem? (i := 732) (by decide +kernel))
set_option maxRecDepth 20000 in
theorem tb_20 : Cond.instanceMethod yX6_init ∈ lw_tbl := List.mem_append_right _ (List.mem_of_getElem? (i := 20) (by decide +kernel))
set_option maxRecDepth 20000 in
theorem tb_733 : Cond.instanceMethod yX7_init ∈ lw_tbl := List.mem_append_right _ (List.mem_of_getElem? (i := 733) (by decide +kernel))
set_option maxRecDepth 20000 in
theorem tb_17 : Cond.classLink RL 8 RX6 ∈ lw_tbl := List.mem_append_right _ (List.mem_of_getElem? (i := 17) (by decide +kernel))
set_option maxRecDepth 20000 in
theorem tb_730 : Cond.classLink RL 78 RX7 ∈ lw_tbl := List.mem_append_right _ (List.mem_of_getElem? (i := 730) (by decide +kernel))
set_option maxRecDepth 20000 in
theorem tb_376 : Cond.stringRef RX6 31 "voltage or frequency out of range" ∈ lw_tbl := List.mem_append_right _ (List.mem_of_getElem? (i := 376) (by decide +kernel))
set_option maxRecDepth 20000 in
theorem tb_412 : Cond.stringRef RX6 51 "by out of range" ∈ lw_tbl := List.mem_append_right _ (List.mem_of_getElem? (i := 412) (by decide +kernel))
set_option maxRecDepth 20000 in
theorem tb_429 : Cond.stringRef RX6 67 "load, resonance or quality out of range" ∈ lw_tbl := List.mem_append_right _ (List.mem_of_getElem? (i := 429) (by decide +kernel))
set_option maxRecDepth 20000 in
theorem tb_441 : Cond.stringRef RX6 73 "kp or ki out of range" ∈ lw_tbl := List.mem_append_right _ (List.mem_of_getElem? (i := 441) (by decide +kernel))
set_option maxRecDepth 20000 in
theorem tb_450 : Cond.stringRef RX6 88 "tolerance or ticks out of range" ∈ lw_tbl := List.mem_append_right _ (List.mem_of_getElem? (i := 450) (by decide +kernel))
set_option maxRecDepth 20000 in
theorem tb_460 : Cond.stringRef RX6 98 "a limit of the window is out of range" ∈ lw_tbl := List.mem_append_right _ (List.mem_of_getElem? (i := 460) (by decide +kernel))
set_option maxRecDepth 20000 in
theorem tb_468 : Cond.stringRef RX6 118 "delay, ramp or rating out of range" ∈ lw_tbl := List.mem_append_right _ (List.mem_of_getElem? (i := 468) (by decide +kernel))
set_option maxRecDepth 20000 in
theorem tb_476 : Cond.stringRef RX6 129 "shift or gain out of range" ∈ lw_tbl := List.mem_append_right _ (List.mem_of_getElem? (i := 476) (by decide +kernel))
set_option maxRecDepth 20000 in
theorem tb_485 : Cond.stringRef RX6 137 "kind, threshold or duration out of range" ∈ lw_tbl := List.mem_append_right _ (List.mem_of_getElem? (i := 485) (by decide +kernel))
set_option maxRecDepth 20000 in
theorem tb_500 : Cond.stringRef RX6 151 "there are 8 rules" ∈ lw_tbl := List.mem_append_right _ (List.mem_of_getElem? (i := 500) (by decide +kernel))
set_option maxRecDepth 20000 in
theorem tb_514 : Cond.stringRef RX6 164 "ticks out of range" ∈ lw_tbl := List.mem_append_right _ (List.mem_of_getElem? (i := 514) (by decide +kernel))
set_option maxRecDepth 20000 in
theorem tb_605 : Cond.stringRef RX6 198 "what is not 0 to 9" ∈ lw_tbl := List.mem_append_right _ (List.mem_of_getElem? (i := 605) (by decide +kernel))
set_option maxRecDepth 20000 in
theorem tb_627 : Cond.stringRef RX6 206 "there is no such rule" ∈ lw_tbl := List.mem_append_right _ (List.mem_of_getElem? (i := 627) (by decide +kernel))
set_option maxRecDepth 20000 in
theorem tb_641 : Cond.stringRef RX6 223 "what is neither 0 nor 1" ∈ lw_tbl := List.mem_append_right _ (List.mem_of_getElem? (i := 641) (by decide +kernel))
set_option maxRecDepth 20000 in
theorem tb_661 : Cond.stringRef RX6 231 "an argument is out of range" ∈ lw_tbl := List.mem_append_right _ (List.mem_of_getElem? (i := 661) (by decide +kernel))
set_option maxRecDepth 20000 in
theorem tb_662 : Cond.stringRef RX6 233 "the inverter is not RUNNING" ∈ lw_tbl := List.mem_append_right _ (List.mem_of_getElem? (i := 662) (by decide +kernel))
set_option maxRecDepth 20000 in
theorem tb_721 : Cond.stringRef RX6 249 "the slot does not exist" ∈ lw_tbl := List.mem_append_right _ (List.mem_of_getElem? (i := 721) (by decide +kernel))
set_option maxRecDepth 20000 in
theorem tb_729 : Cond.stringRef RX6 251 "nothing was saved in the slot" ∈ lw_tbl := List.mem_append_right _ (List.mem_of_getElem? (i := 729) (by decide +kernel))
set_option maxRecDepth 20000 in
theorem hi_0 : ∀ w ∈ u_ws RX0 TX0 14, w ∈ wsL_law := by
  have h : ∀ w ∈ u_ws RX0 TX0 14, w ∈ wsX6_init := by decide +kernel
  exact fun w hw => (ggL_law_X6_init w (h w hw)).1
set_option maxRecDepth 20000 in
theorem hi_1 : ∀ w ∈ u_ws RX1 TX1 9, w ∈ wsL_law := by
  have h : ∀ w ∈ u_ws RX1 TX1 9, w ∈ wsX6_init := by decide +kernel
  exact fun w hw => (ggL_law_X6_init w (h w hw)).1
set_option maxRecDepth 20000 in
theorem hi_2 : ∀ w ∈ u_ws RX2 TX2 3, w ∈ wsL_law := by
  have h : ∀ w ∈ u_ws RX2 TX2 3, w ∈ wsX6_init := by decide +kernel
  exact fun w hw => (ggL_law_X6_init w (h w hw)).1
set_option maxRecDepth 20000 in
theorem hi_3 : ∀ w ∈ u_ws RX3 TX3 9, w ∈ wsL_law := by
  have h : ∀ w ∈ u_ws RX3 TX3 9, w ∈ wsX6_init := by decide +kernel
  exact fun w hw => (ggL_law_X6_init w (h w hw)).1
set_option maxRecDepth 20000 in
theorem hi_4 : ∀ w ∈ u_ws RX4 TX4 5, w ∈ wsL_law := by
  have h : ∀ w ∈ u_ws RX4 TX4 5, w ∈ wsX6_init := by decide +kernel
  exact fun w hw => (ggL_law_X6_init w (h w hw)).1
set_option maxRecDepth 20000 in
theorem hi_5 : ∀ w ∈ u_ws RX5 TX5 6, w ∈ wsL_law := by
  have h : ∀ w ∈ u_ws RX5 TX5 6, w ∈ wsX6_init := by decide +kernel
  exact fun w hw => (ggL_law_X6_init w (h w hw)).1
set_option maxRecDepth 20000 in
theorem hi_6 : ∀ w ∈ u_ws RX6 TX6 3, w ∈ wsL_law := by
  have h : ∀ w ∈ u_ws RX6 TX6 3, w ∈ wsX6_init := by decide +kernel
  exact fun w hw => (ggL_law_X6_init w (h w hw)).1
set_option maxRecDepth 20000 in
theorem hi_7 : ∀ w ∈ u_ws RX7 TX7 7, w ∈ wsL_law := by
  have h : ∀ w ∈ u_ws RX7 TX7 7, w ∈ wsX7_init := by decide +kernel
  exact fun w hw => (ggL_law_X7_init w (h w hw)).1
set_option maxRecDepth 100000 in
theorem ex_in : ∀ q ∈ strs, Cond.exactly (.string RX6 q.1) "java/lang/String" ∈ flatC (Jvm.Cond.and given_1 narrow_1) := by decide +kernel
theorem sr_in : ∀ q ∈ strs, Cond.stringRef RX6 q.1 q.2 ∈ lw_tbl := by
  intro q hq
  simp only [strs, List.mem_cons, List.not_mem_nil, or_false] at hq
  rcases hq with rfl | rfl | rfl | rfl | rfl | rfl | rfl | rfl | rfl | rfl | rfl | rfl | rfl | rfl | rfl | rfl | rfl | rfl
  · exact tb_376
  · exact tb_412
  · exact tb_429
  · exact tb_441
  · exact tb_450
  · exact tb_460
  · exact tb_468
  · exact tb_476
  · exact tb_485
  · exact tb_500
  · exact tb_514
  · exact tb_605
  · exact tb_627
  · exact tb_641
  · exact tb_661
  · exact tb_662
  · exact tb_721
  · exact tb_729
section
variable {s : State} {args : Array Value}
theorem kn_arr {t : FieldType} (h : (Cond.arrayClass t).before args s = true) (hra : ∀ cA : ClassId, s.vm.findClass ("[" ++ t.toString) = some cA → va_RA s cA t) : ∃ cA, ArrOfT s cA t ∧ va_RA s cA t := by
  obtain ⟨cA, kA, comp, h1, h2, h3⟩ := Cond.arrayClass_spec h
  exact ⟨cA, fun n z => ⟨fun k h => (by cases h), kA, h2, comp, h3⟩, hra cA h1⟩
theorem kn_obj {X : String} (h : (Cond.arrayOver (.object X)).before args s = true) : ∃ cA, ArrOfT s cA (.object X) ∧ va_RA s cA (.object X) := by
  obtain ⟨comp, cA, kA, h1, h2, h3, h4, h5⟩ := Cond.arrayOver_spec h
  exact ⟨cA, fun n z => ⟨fun k h => (by cases h), kA, h3, comp, h4⟩, kA, comp, h3, h4, h1, h5⟩
theorem kn_cls (hts0 : ∀ w ∈ lw_tbl, w.before args s = true) : ∃ D : va_G, ∀ (k : Nat) (q : vw_C), vwCl[k]? = some q → u_Kn s q.1 q.2.1 q.2.2 (D.1 k) (D.2 k) := by
  have hts : ∀ w ∈ wsL_law, w.before args s = true := fun w h => hts0 w (wsL_law_in w h)
  obtain ⟨c0, i0, k0⟩ := u_known (C := RX0) (T := TX0) (N := 14) (n := 14) hts hi_0 (hts0 _ tb_123)
  obtain ⟨c1, i1, k1⟩ := u_known (C := RX1) (T := TX1) (N := 9) (n := 9) hts hi_1 (hts0 _ tb_32)
  obtain ⟨c2, i2, k2⟩ := u_known (C := RX2) (T := TX2) (N := 3) (n := 3) hts hi_2 (hts0 _ tb_215)
  obtain ⟨c3, i3, k3⟩ := u_known (C := RX3) (T := TX3) (N := 9) (n := 9) hts hi_3 (hts0 _ tb_78)
  obtain ⟨c4, i4, k4⟩ := u_known (C := RX4) (T := TX4) (N := 5) (n := 5) hts hi_4 (hts0 _ tb_192)
  obtain ⟨c5, i5, k5⟩ := u_known (C := RX5) (T := TX5) (N := 6) (n := 6) hts hi_5 (hts0 _ tb_26)
  obtain ⟨c6, i6, k6⟩ := u_known (C := RX6) (T := TX6) (N := 3) (n := 3) hts hi_6 (hts0 _ tb_18)
  obtain ⟨c7, i7, k7⟩ := u_known (C := RX7) (T := TX7) (N := 7) (n := 7) hts hi_7 (hts0 _ tb_731)
  refine ⟨(fun k => [c0, c1, c2, c3, c4, c5, c6, c7].getD k c0, fun k => [i0, i1, i2, i3, i4, i5, i6, i7].getD k i0), ?_⟩
  intro k q hq
  match k, hq with
  | 0, hq => cases hq; exact k0
  | 1, hq => cases hq; exact k1
  | 2, hq => cases hq; exact k2
  | 3, hq => cases hq; exact k3
  | 4, hq => cases hq; exact k4
  | 5, hq => cases hq; exact k5
  | 6, hq => cases hq; exact k6
  | 7, hq => cases hq; exact k7
  | k + 8, hq => simp [vwCl] at hq
theorem kn_all (hts0 : ∀ w ∈ lw_tbl, w.before args s = true) : ∃ (D : va_G) (cI cJ cZ cO : ClassId), va_K D vwCl (tysK cI cJ cZ cO) s := by
  obtain ⟨D, hD⟩ := kn_cls hts0
  obtain ⟨cI, i1, i2⟩ := kn_arr (hts0 _ tb_121) (fun _ h => h)
  obtain ⟨cJ, j1, j2⟩ := kn_arr (hts0 _ tb_761) (fun _ h => h)
  obtain ⟨cZ, z1, z2⟩ := kn_arr (hts0 _ tb_762) (fun _ h => h)
  obtain ⟨cO, o1, o2⟩ := kn_obj (hts0 _ tb_256)
  refine ⟨D, cI, cJ, cZ, cO, hD, ?_⟩
  intro k q hq
  match k, hq with
  | 0, hq => cases hq; exact ⟨i1, i2⟩
  | 1, hq => cases hq; exact ⟨j1, j2⟩
  | 2, hq => cases hq; exact ⟨z1, z2⟩
  | 3, hq => cases hq; exact ⟨o1, o2⟩
  | k + 4, hq => simp [tysK] at hq
theorem nw_of (hts0 : ∀ w ∈ lw_tbl, w.before args s = true) : NW s :=
  ⟨va_Nw.of rfl (hts0 _ tb_27), va_Nw.of rfl (hts0 _ tb_33), va_Nw.of rfl (hts0 _ tb_124), va_Nw.of rfl (hts0 _ tb_193), va_Nw.of rfl (hts0 _ tb_216), va_Nw.of rfl (hts0 _ tb_490), va_Nw.of rfl (hts0 _ tb_539), va_Nw.of rfl (hts0 _ tb_554), va_Nw.of rfl (hts0 _ tb_555), va_Nw.of rfl (hts0 _ tb_589), va_Nw.of rfl (hts0 _ tb_680), va_Nw.of rfl (hts0 _ tb_694), va_Nw.of rfl (hts0 _ tb_699), va_AO.of (hts0 _ tb_256)⟩
theorem xs_of (hts0 : ∀ w ∈ lw_tbl, w.before args s = true) (hs : ∀ w ∈ flatC (Jvm.Cond.and given_1 narrow_1), w.before args s = true) : XS s :=
  ⟨va_Nw.of rfl (hts0 _ tb_339), va_Nw.of rfl (hts0 _ tb_341), va_Nw.of rfl (hts0 _ tb_343), va_Nw.of rfl (hts0 _ tb_337), va_Nw.of rfl (hts0 _ tb_493), va_Nw.of rfl (hts0 _ tb_620), fun q hq => by
    obtain ⟨a, -, -, -, ha, -⟩ := Cond.exactly_spec (hs _ (ex_in q hq))
    exact ⟨a, vk_R.of (hts0 _ (sr_in q hq)) ha⟩, va_Nc.of (hs (Cond.not (.castable eS eA)) (by decide +kernel))⟩
theorem zs_of (hts0 : ∀ w ∈ lw_tbl, w.before args s = true) (hs : ∀ w ∈ flatC (Jvm.Cond.and given_1 narrow_1), w.before args s = true) : ZS (fun q => s.heap.size ≤ q) s s.heap :=
  ⟨vx_Zqof (hts0 _ tb_362) (hts0 _ tb_9) (hs (Cond.isRef (.static Bundle.tN "UNASSIGNED_STACK" Bundle.steD)) (by decide +kernel)) (fun a h => Nat.not_le.mpr h), vx_Zqof (hts0 _ tb_364) (hts0 _ tb_9) (hs (Cond.isRef (.static Bundle.tN "SUPPRESSED_SENTINEL" Bundle.listD)) (by decide +kernel)) (fun a h => Nat.not_le.mpr h)⟩
end
end START
