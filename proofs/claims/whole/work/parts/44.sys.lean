section PERM
theorem perm_cnt {w w' : va_W} (h : ∀ (dec : DecidableEq (Nat × va_E)) (x : Nat × va_E), w.count x = w'.count x) : w.Perm w' := by
  haveI : DecidableEq (Nat × va_E) := Classical.typeDecidableEq _
  exact List.perm_iff_count.mpr (fun x => h _ x)
/-- the class's cells and the reference's, and the out cell -/
def LB (gi s0c oc : Nat × va_E) (P T SV M : va_W) : va_W := gi :: s0c :: oc :: (P ++ (T ++ (SV ++ M)))
section
variable (gi s0c oc md at_ : Nat × va_E) (P T SV M : va_W)
/-- helpers without the out cell -/
theorem pm_1 : (LB gi s0c oc P T SV M).Perm ((s0c :: oc :: (T ++ (SV ++ M))) ++ (gi :: P)) := by
  refine perm_cnt (fun dec x => ?_)
  unfold LB
  simp only [List.count_cons, List.count_append]
  omega
/-- helpers with the out cell -/
theorem pm_2 : (LB gi s0c oc P T SV M).Perm ((s0c :: (T ++ (SV ++ M))) ++ (oc :: gi :: P)) := by
  refine perm_cnt (fun dec x => ?_)
  unfold LB
  simp only [List.count_cons, List.count_append]
  omega
/-- the what-if calls -/
theorem pm_3 : (LB gi s0c oc P T SV M).Perm ((s0c :: (SV ++ M)) ++ (oc :: gi :: (P ++ T))) := by
  refine perm_cnt (fun dec x => ?_)
  unfold LB
  simp only [List.count_cons, List.count_append]
  omega
/-- the slots: no saved cells wanted -/
theorem pm_4 : (LB gi s0c oc P T SV M).Perm ((oc :: (T ++ (SV ++ M))) ++ (gi :: s0c :: P)) := by
  refine perm_cnt (fun dec x => ?_)
  unfold LB
  simp only [List.count_cons, List.count_append]
  omega
/-- the reference: all its cells stand last -/
theorem pm_5 : (LB gi s0c oc P T SV M).Perm ((gi :: s0c :: oc :: (P ++ (T ++ SV))) ++ M) := by
  refine perm_cnt (fun dec x => ?_)
  unfold LB
  simp only [List.count_cons, List.count_append]
  omega
/-- the out cell first -/
theorem pm_6 : (LB gi s0c oc P T SV M).Perm (oc :: gi :: s0c :: (P ++ (T ++ (SV ++ M)))) := by
  refine perm_cnt (fun dec x => ?_)
  unfold LB
  simp only [List.count_cons, List.count_append]
  omega
end
end PERM
