/-! what the small methods answer -/
/-- the law's tables of letters, as they lie outside -/
def Ext (M : Mem) : Prop := mK M BIG = 25 ∧ mN M BIG = 3 ∧ mI M BIG 0 = 10 ∧ mI M BIG 1 = 5 ∧ mI M BIG 2 = 0 ∧ mK M (BIG + 1) = 25 ∧ mN M (BIG + 1) = 3 ∧ mI M (BIG + 1) 0 = 1024 ∧ mI M (BIG + 1) 1 = 32 ∧ mI M (BIG + 1) 2 = 1 ∧ mK M (BIG + 2) = 25 ∧ mN M (BIG + 2) = 5 ∧ mI M (BIG + 2) 0 = 0 ∧ mI M (BIG + 2) 1 = 37 ∧ mI M (BIG + 2) 2 = 1024 ∧ mI M (BIG + 2) 3 = 2113 ∧ mI M (BIG + 2) 4 = 5218
theorem e_isBelow (X : CX) (M : Mem) (a b : Int) : Ev X y_x_isBelow (0, 0) [aI a, aI b] M (fun r M' => r = some (aI (if 0 ≤ a ∧ a < b then 1 else 0)) ∧ M' = M) := by
  refine Ev_of mcd_10 mok_10 (by decide) rfl (Nat.le_of_ble_eq_true rfl) ?_
  rw [show yl 10 = 2 from rfl]
  refine G_wp LK_10 (fun i => false) 12 _ _ _ _ ?_
  simp only [wp, stp, wq, stq, lget, lset, lset2, clr, entL, cnd, psh, catS, tsw, List.take_succ_cons, List.take_zero, List.drop_succ_cons, List.drop_zero, List.reverse_cons, List.reverse_nil, List.nil_append, List.cons_append, List.length_cons, List.length_nil, List.replicate_succ, List.replicate_zero, Nat.reduceAdd, Nat.reduceSub, Nat.reduceLeDiff, Nat.reduceLT, Nat.reduceEqDiff, Nat.reduceMul, Nat.zero_add, Nat.add_zero, Nat.le_refl, Nat.zero_le, Int.reduceEq, Int.reduceToNat, Int.toNat_natCast, Int.reduceNeg, Int.reduceAdd, Int.reduceSub, Int.reduceMul, Int.reduceLT, Int.reduceLE, Int.reduceDiv, Int.reduceMod, Bool.false_eq_true, reduceIte, if_true, if_false, true_and, and_true, implies_true, forall_const, true_or, or_true, or_false, false_or, not_true_eq_false, not_false_eq_true, false_implies, Prod.mk.injEq, Fin.val_zero, Fin.val_one, Fin.isValue, Fin.reduceFinMk, Fin.val_two, mR_uI, mK_uI, mN_uI, mI_uR, mK_uR, mN_uR, mR_uC, mK_uC, mN_uC, Option.some.injEq, Sum.inl.injEq, Sum.inr.injEq, decide_true, decide_false, Bool.or_false, Bool.false_or, Bool.or_true, Bool.true_or, Nat.reduceBEq, beq_self_eq_true, show tb 10 = tb_10 from rfl, tb_10, tb_10_0]
  grind
theorem e_exponent (X : CX) (M : Mem) (p l : Int) (hE : Ext M) (hp : isPr p) (hl : 0 ≤ l ∧ l < 3) : Ev X y_x_exponent (0, 0) [aI p, aI l] M (fun r M' => r = some (aI (ex p l)) ∧ M' = M) := by
  refine Ev_of mcd_33 mok_33 (by decide) rfl (Nat.le_of_ble_eq_true rfl) ?_
  rw [show yl 33 = 2 from rfl]
  refine G_wp LK_33 (fun i => false) 12 _ _ _ _ ?_
  simp only [wp, stp, wq, stq, lget, lset, lset2, clr, entL, cnd, psh, catS, tsw, List.take_succ_cons, List.take_zero, List.drop_succ_cons, List.drop_zero, List.reverse_cons, List.reverse_nil, List.nil_append, List.cons_append, List.length_cons, List.length_nil, List.replicate_succ, List.replicate_zero, Nat.reduceAdd, Nat.reduceSub, Nat.reduceLeDiff, Nat.reduceLT, Nat.reduceEqDiff, Nat.reduceMul, Nat.zero_add, Nat.add_zero, Nat.le_refl, Nat.zero_le, Int.reduceEq, Int.reduceToNat, Int.toNat_natCast, Int.reduceNeg, Int.reduceAdd, Int.reduceSub, Int.reduceMul, Int.reduceLT, Int.reduceLE, Int.reduceDiv, Int.reduceMod, Bool.false_eq_true, reduceIte, if_true, if_false, true_and, and_true, implies_true, forall_const, true_or, or_true, or_false, false_or, not_true_eq_false, not_false_eq_true, false_implies, Prod.mk.injEq, Fin.val_zero, Fin.val_one, Fin.isValue, Fin.reduceFinMk, Fin.val_two, mR_uI, mK_uI, mN_uI, mI_uR, mK_uR, mN_uR, mR_uC, mK_uC, mN_uC, Option.some.injEq, Sum.inl.injEq, Sum.inr.injEq, decide_true, decide_false, Bool.or_false, Bool.false_or, Bool.or_true, Bool.true_or, Nat.reduceBEq, beq_self_eq_true, show tb 33 = tb_33 from rfl, tb_33, tb_33_0]
  obtain ⟨h1, h2, h3, h4, h5, -⟩ := hE
  unfold isPr at hp
  refine ⟨⟨Or.inr h1, hl.1, by rw [h2]; exact hl.2⟩, ?_⟩
  have : l = 0 ∨ l = 1 ∨ l = 2 := by omega
  rcases this with rfl | rfl | rfl
  · simp only [Int.reduceToNat, h3]
    rw [iShr_10 (by omega) (by omega), iAnd_31 (by omega) (by omega)]; rfl
  · simp only [Int.reduceToNat, h4]
    rw [iShr_5 (by omega) (by omega), iAnd_31 (by omega) (by omega)]; rfl
  · simp only [Int.reduceToNat, h5]
    rw [iShr_0 (by omega) (by omega), iAnd_31 (by omega) (by omega)]; rfl
theorem e_degreeOf (X : CX) (M : Mem) (p : Int) (hp : isPr p) : Ev X y_x_degreeOf (0, 0) [aI p] M (fun r M' => r = some (aI (dg p)) ∧ M' = M) := by
  refine Ev_of mcd_38 mok_38 (by decide) rfl (Nat.le_of_ble_eq_true rfl) ?_
  rw [show yl 38 = 1 from rfl]
  refine G_wp LK_38 (fun i => false) 16 _ _ _ _ ?_
  simp only [wp, stp, wq, stq, lget, lset, lset2, clr, entL, cnd, psh, catS, tsw, List.take_succ_cons, List.take_zero, List.drop_succ_cons, List.drop_zero, List.reverse_cons, List.reverse_nil, List.nil_append, List.cons_append, List.length_cons, List.length_nil, List.replicate_succ, List.replicate_zero, Nat.reduceAdd, Nat.reduceSub, Nat.reduceLeDiff, Nat.reduceLT, Nat.reduceEqDiff, Nat.reduceMul, Nat.zero_add, Nat.add_zero, Nat.le_refl, Nat.zero_le, Int.reduceEq, Int.reduceToNat, Int.toNat_natCast, Int.reduceNeg, Int.reduceAdd, Int.reduceSub, Int.reduceMul, Int.reduceLT, Int.reduceLE, Int.reduceDiv, Int.reduceMod, Bool.false_eq_true, reduceIte, if_true, if_false, true_and, and_true, implies_true, forall_const, true_or, or_true, or_false, false_or, not_true_eq_false, not_false_eq_true, false_implies, Prod.mk.injEq, Fin.val_zero, Fin.val_one, Fin.isValue, Fin.reduceFinMk, Fin.val_two, mR_uI, mK_uI, mN_uI, mI_uR, mK_uR, mN_uR, mR_uC, mK_uC, mN_uC, Option.some.injEq, Sum.inl.injEq, Sum.inr.injEq, decide_true, decide_false, Bool.or_false, Bool.false_or, Bool.or_true, Bool.true_or, Nat.reduceBEq, beq_self_eq_true, show tb 38 = tb_38 from rfl, tb_38, tb_38_0]
  unfold isPr at hp
  rw [iShr_10 (by omega) (by omega), iShr_5 (by omega) (by omega), iAnd_31 (by omega) (by omega), iAnd_31 (by omega) (by omega)]
  unfold inR dg ex
  simp
  omega
theorem e_rank (X : CX) (M : Mem) (o p : Int) (hp : isPr p) : Ev X y_x_rank (0, 0) [aI o, aI p] M (fun r M' => r = some (aI (rk o p)) ∧ M' = M) := by
  refine Ev_of mcd_37 mok_37 (by decide) rfl (Nat.le_of_ble_eq_true rfl) ?_
  rw [show yl 37 = 3 from rfl]
  refine G_wp LK_37 (fun i => false) 40 _ _ _ _ ?_
  simp only [wp, stp, wq, stq, lget, lset, lset2, clr, entL, cnd, psh, catS, tsw, List.take_succ_cons, List.take_zero, List.drop_succ_cons, List.drop_zero, List.reverse_cons, List.reverse_nil, List.nil_append, List.cons_append, List.length_cons, List.length_nil, List.replicate_succ, List.replicate_zero, Nat.reduceAdd, Nat.reduceSub, Nat.reduceLeDiff, Nat.reduceLT, Nat.reduceEqDiff, Nat.reduceMul, Nat.zero_add, Nat.add_zero, Nat.le_refl, Nat.zero_le, Int.reduceEq, Int.reduceToNat, Int.toNat_natCast, Int.reduceNeg, Int.reduceAdd, Int.reduceSub, Int.reduceMul, Int.reduceLT, Int.reduceLE, Int.reduceDiv, Int.reduceMod, Bool.false_eq_true, reduceIte, if_true, if_false, true_and, and_true, implies_true, forall_const, true_or, or_true, or_false, false_or, not_true_eq_false, not_false_eq_true, false_implies, Prod.mk.injEq, Fin.val_zero, Fin.val_one, Fin.isValue, Fin.reduceFinMk, Fin.val_two, mR_uI, mK_uI, mN_uI, mI_uR, mK_uR, mN_uR, mR_uC, mK_uC, mN_uC, Option.some.injEq, Sum.inl.injEq, Sum.inr.injEq, decide_true, decide_false, Bool.or_false, Bool.false_or, Bool.or_true, Bool.true_or, Nat.reduceBEq, beq_self_eq_true, show tb 37 = tb_37 from rfl, tb_37, tb_37_0]
  have hb : 0 ≤ dg p ∧ dg p ≤ 93 := by have h1 := ex_b p 0; have h2 := ex_b p 1; have h3 := ex_b p 2; unfold dg; omega
  refine ⟨fun h => Ev_mono (e_degreeOf X M p hp) (fun r M' hq _ _ => ?_), fun h => ?_⟩
  · obtain ⟨rfl, rfl⟩ := hq
    simp only [wp, stp, wq, stq, lget, lset, lset2, clr, entL, cnd, psh, catS, tsw, List.take_succ_cons, List.take_zero, List.drop_succ_cons, List.drop_zero, List.reverse_cons, List.reverse_nil, List.nil_append, List.cons_append, List.length_cons, List.length_nil, List.replicate_succ, List.replicate_zero, Nat.reduceAdd, Nat.reduceSub, Nat.reduceLeDiff, Nat.reduceLT, Nat.reduceEqDiff, Nat.reduceMul, Nat.zero_add, Nat.add_zero, Nat.le_refl, Nat.zero_le, Int.reduceEq, Int.reduceToNat, Int.toNat_natCast, Int.reduceNeg, Int.reduceAdd, Int.reduceSub, Int.reduceMul, Int.reduceLT, Int.reduceLE, Int.reduceDiv, Int.reduceMod, Bool.false_eq_true, reduceIte, if_true, if_false, true_and, and_true, implies_true, forall_const, true_or, or_true, or_false, false_or, not_true_eq_false, not_false_eq_true, false_implies, Prod.mk.injEq, Fin.val_zero, Fin.val_one, Fin.isValue, Fin.reduceFinMk, Fin.val_two, mR_uI, mK_uI, mN_uI, mI_uR, mK_uR, mN_uR, mR_uC, mK_uC, mN_uC, Option.some.injEq, Sum.inl.injEq, Sum.inr.injEq, decide_true, decide_false, Bool.or_false, Bool.false_or, Bool.or_true, Bool.true_or, Nat.reduceBEq, beq_self_eq_true, show tb 37 = tb_37 from rfl, tb_37, tb_37_0]
    unfold isPr at hp
    rw [iShr_5 (by omega) (by omega), iAnd_31 (by omega) (by omega), iAnd_31 (by omega) (by omega)]
    unfold inR rk
    refine ⟨fun h2 => ?_, fun h2 => ?_⟩
    · rw [if_neg h, if_neg h2]
      omega
    · rw [if_neg h, if_pos (by omega)]
      omega
  · unfold rk
    rw [if_pos (by omega)]
theorem e_in (X : CX) (M : Mem) (v a b : Int) : Ev X y_m_in (0, 0) [aI v, aI a, aI b] M (fun r M' => r = some (aI (if a ≤ v ∧ v ≤ b then 1 else 0)) ∧ M' = M) := by
  refine Ev_of mcd_109 mok_109 (by decide) rfl (Nat.le_of_ble_eq_true rfl) ?_
  rw [show yl 109 = 3 from rfl]
  refine G_wp LK_109 (fun i => false) 16 _ _ _ _ ?_
  simp only [wp, stp, wq, stq, lget, lset, lset2, clr, entL, cnd, psh, catS, tsw, List.take_succ_cons, List.take_zero, List.drop_succ_cons, List.drop_zero, List.reverse_cons, List.reverse_nil, List.nil_append, List.cons_append, List.length_cons, List.length_nil, List.replicate_succ, List.replicate_zero, Nat.reduceAdd, Nat.reduceSub, Nat.reduceLeDiff, Nat.reduceLT, Nat.reduceEqDiff, Nat.reduceMul, Nat.zero_add, Nat.add_zero, Nat.le_refl, Nat.zero_le, Int.reduceEq, Int.reduceToNat, Int.toNat_natCast, Int.reduceNeg, Int.reduceAdd, Int.reduceSub, Int.reduceMul, Int.reduceLT, Int.reduceLE, Int.reduceDiv, Int.reduceMod, Bool.false_eq_true, reduceIte, if_true, if_false, true_and, and_true, implies_true, forall_const, true_or, or_true, or_false, false_or, not_true_eq_false, not_false_eq_true, false_implies, Prod.mk.injEq, Fin.val_zero, Fin.val_one, Fin.isValue, Fin.reduceFinMk, Fin.val_two, mR_uI, mK_uI, mN_uI, mI_uR, mK_uR, mN_uR, mR_uC, mK_uC, mN_uC, Option.some.injEq, Sum.inl.injEq, Sum.inr.injEq, decide_true, decide_false, Bool.or_false, Bool.false_or, Bool.or_true, Bool.true_or, Nat.reduceBEq, beq_self_eq_true, show tb 109 = tb_109 from rfl, tb_109, tb_109_0]
  grind
theorem e_of (X : CX) (M : Mem) (p l : Int) (hp : isPr p) : Ev X y_m_of (0, 0) [aI p, aI l] M (fun r M' => r = some (aI (ex p l)) ∧ M' = M) := by
  refine Ev_of mcd_126 mok_126 (by decide) rfl (Nat.le_of_ble_eq_true rfl) ?_
  rw [show yl 126 = 2 from rfl]
  refine G_wp LK_126 (fun i => false) 16 _ _ _ _ ?_
  simp only [wp, stp, wq, stq, lget, lset, lset2, clr, entL, cnd, psh, catS, tsw, List.take_succ_cons, List.take_zero, List.drop_succ_cons, List.drop_zero, List.reverse_cons, List.reverse_nil, List.nil_append, List.cons_append, List.length_cons, List.length_nil, List.replicate_succ, List.replicate_zero, Nat.reduceAdd, Nat.reduceSub, Nat.reduceLeDiff, Nat.reduceLT, Nat.reduceEqDiff, Nat.reduceMul, Nat.zero_add, Nat.add_zero, Nat.le_refl, Nat.zero_le, Int.reduceEq, Int.reduceToNat, Int.toNat_natCast, Int.reduceNeg, Int.reduceAdd, Int.reduceSub, Int.reduceMul, Int.reduceLT, Int.reduceLE, Int.reduceDiv, Int.reduceMod, Bool.false_eq_true, reduceIte, if_true, if_false, true_and, and_true, implies_true, forall_const, true_or, or_true, or_false, false_or, not_true_eq_false, not_false_eq_true, false_implies, Prod.mk.injEq, Fin.val_zero, Fin.val_one, Fin.isValue, Fin.reduceFinMk, Fin.val_two, mR_uI, mK_uI, mN_uI, mI_uR, mK_uR, mN_uR, mR_uC, mK_uC, mN_uC, Option.some.injEq, Sum.inl.injEq, Sum.inr.injEq, decide_true, decide_false, Bool.or_false, Bool.false_or, Bool.or_true, Bool.true_or, Nat.reduceBEq, beq_self_eq_true, show tb 126 = tb_126 from rfl, tb_126, tb_126_0]
  unfold isPr at hp
  rw [iShr_10 (by omega) (by omega), iShr_5 (by omega) (by omega), iShr_0 (by omega) (by omega), iAnd_31 (by omega) (by omega), iAnd_31 (by omega) (by omega), iAnd_31 (by omega) (by omega)]
  unfold ex
  grind
theorem e_letterOf (X : CX) (M : Mem) (l : Int) : Ev X y_m_letterOf (0, 0) [aI l] M (fun r M' => r = some (aI (if l = 0 then 1024 else if l = 1 then 32 else 1)) ∧ M' = M) := by
  refine Ev_of mcd_127 mok_127 (by decide) rfl (Nat.le_of_ble_eq_true rfl) ?_
  rw [show yl 127 = 1 from rfl]
  refine G_wp LK_127 (fun i => false) 16 _ _ _ _ ?_
  simp only [wp, stp, wq, stq, lget, lset, lset2, clr, entL, cnd, psh, catS, tsw, List.take_succ_cons, List.take_zero, List.drop_succ_cons, List.drop_zero, List.reverse_cons, List.reverse_nil, List.nil_append, List.cons_append, List.length_cons, List.length_nil, List.replicate_succ, List.replicate_zero, Nat.reduceAdd, Nat.reduceSub, Nat.reduceLeDiff, Nat.reduceLT, Nat.reduceEqDiff, Nat.reduceMul, Nat.zero_add, Nat.add_zero, Nat.le_refl, Nat.zero_le, Int.reduceEq, Int.reduceToNat, Int.toNat_natCast, Int.reduceNeg, Int.reduceAdd, Int.reduceSub, Int.reduceMul, Int.reduceLT, Int.reduceLE, Int.reduceDiv, Int.reduceMod, Bool.false_eq_true, reduceIte, if_true, if_false, true_and, and_true, implies_true, forall_const, true_or, or_true, or_false, false_or, not_true_eq_false, not_false_eq_true, false_implies, Prod.mk.injEq, Fin.val_zero, Fin.val_one, Fin.isValue, Fin.reduceFinMk, Fin.val_two, mR_uI, mK_uI, mN_uI, mI_uR, mK_uR, mN_uR, mR_uC, mK_uC, mN_uC, Option.some.injEq, Sum.inl.injEq, Sum.inr.injEq, decide_true, decide_false, Bool.or_false, Bool.false_or, Bool.or_true, Bool.true_or, Nat.reduceBEq, beq_self_eq_true, show tb 127 = tb_127 from rfl, tb_127, tb_127_0]
  grind
theorem e_isIn (X : CX) (M : Mem) (b k : Int) : Ev X y_m_isIn (0, 0) [aI b, aI k] M (fun r M' => r = some (aI (if iAnd (iShr b k) 1 = 1 then 1 else 0)) ∧ M' = M) := by
  refine Ev_of mcd_142 mok_142 (by decide) rfl (Nat.le_of_ble_eq_true rfl) ?_
  rw [show yl 142 = 2 from rfl]
  refine G_wp LK_142 (fun i => false) 16 _ _ _ _ ?_
  simp only [wp, stp, wq, stq, lget, lset, lset2, clr, entL, cnd, psh, catS, tsw, List.take_succ_cons, List.take_zero, List.drop_succ_cons, List.drop_zero, List.reverse_cons, List.reverse_nil, List.nil_append, List.cons_append, List.length_cons, List.length_nil, List.replicate_succ, List.replicate_zero, Nat.reduceAdd, Nat.reduceSub, Nat.reduceLeDiff, Nat.reduceLT, Nat.reduceEqDiff, Nat.reduceMul, Nat.zero_add, Nat.add_zero, Nat.le_refl, Nat.zero_le, Int.reduceEq, Int.reduceToNat, Int.toNat_natCast, Int.reduceNeg, Int.reduceAdd, Int.reduceSub, Int.reduceMul, Int.reduceLT, Int.reduceLE, Int.reduceDiv, Int.reduceMod, Bool.false_eq_true, reduceIte, if_true, if_false, true_and, and_true, implies_true, forall_const, true_or, or_true, or_false, false_or, not_true_eq_false, not_false_eq_true, false_implies, Prod.mk.injEq, Fin.val_zero, Fin.val_one, Fin.isValue, Fin.reduceFinMk, Fin.val_two, mR_uI, mK_uI, mN_uI, mI_uR, mK_uR, mN_uR, mR_uC, mK_uC, mN_uC, Option.some.injEq, Sum.inl.injEq, Sum.inr.injEq, decide_true, decide_false, Bool.or_false, Bool.false_or, Bool.or_true, Bool.true_or, Nat.reduceBEq, beq_self_eq_true, show tb 142 = tb_142 from rfl, tb_142, tb_142_0]
  grind
theorem e_roomOf (X : CX) (M : Mem) (t : Int) : Ev X y_m_roomOf (0, 0) [aI t] M (fun r M' => r = some (aI (if t = 7 then 3 else 30)) ∧ M' = M) := by
  refine Ev_of mcd_110 mok_110 (by decide) rfl (Nat.le_of_ble_eq_true rfl) ?_
  rw [show yl 110 = 1 from rfl]
  refine G_wp LK_110 (fun i => false) 16 _ _ _ _ ?_
  simp only [wp, stp, wq, stq, lget, lset, lset2, clr, entL, cnd, psh, catS, tsw, List.take_succ_cons, List.take_zero, List.drop_succ_cons, List.drop_zero, List.reverse_cons, List.reverse_nil, List.nil_append, List.cons_append, List.length_cons, List.length_nil, List.replicate_succ, List.replicate_zero, Nat.reduceAdd, Nat.reduceSub, Nat.reduceLeDiff, Nat.reduceLT, Nat.reduceEqDiff, Nat.reduceMul, Nat.zero_add, Nat.add_zero, Nat.le_refl, Nat.zero_le, Int.reduceEq, Int.reduceToNat, Int.toNat_natCast, Int.reduceNeg, Int.reduceAdd, Int.reduceSub, Int.reduceMul, Int.reduceLT, Int.reduceLE, Int.reduceDiv, Int.reduceMod, Bool.false_eq_true, reduceIte, if_true, if_false, true_and, and_true, implies_true, forall_const, true_or, or_true, or_false, false_or, not_true_eq_false, not_false_eq_true, false_implies, Prod.mk.injEq, Fin.val_zero, Fin.val_one, Fin.isValue, Fin.reduceFinMk, Fin.val_two, mR_uI, mK_uI, mN_uI, mI_uR, mK_uR, mN_uR, mR_uC, mK_uC, mN_uC, Option.some.injEq, Sum.inl.injEq, Sum.inr.injEq, decide_true, decide_false, Bool.or_false, Bool.false_or, Bool.or_true, Bool.true_or, Nat.reduceBEq, beq_self_eq_true, show tb 110 = tb_110 from rfl, tb_110, tb_110_0]
  grind
