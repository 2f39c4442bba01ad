/-! the reference's order; the class's polynomials -/
theorem pr_dec {p : Int} (h : isPr p) : p = 1024 * ex p 0 + 32 * ex p 1 + ex p 2 := by
  unfold isPr at h
  unfold ex
  simp
  omega
theorem bt_0 {g : Int} (h : 0 ≤ g ∧ g ≤ 7) : iAnd (iShr g 0) 1 = g % 2 := by
  rw [iShr_0 (by omega) (by omega), iAnd_1 (by omega) (by omega)]
theorem bt_1 {g : Int} (h : 0 ≤ g ∧ g ≤ 7) : iAnd (iShr g 1) 1 = g / 2 % 2 := by
  rw [show iShr g 1 = g / 2 from iShr_eq (k := 1) (by omega) (by omega) (by omega), iAnd_1 (by omega) (by omega)]
theorem bt_2 {g : Int} (h : 0 ≤ g ∧ g ≤ 7) : iAnd (iShr g 2) 1 = g / 4 % 2 := by
  rw [show iShr g 2 = g / 4 from iShr_eq (k := 2) (by omega) (by omega) (by omega), iAnd_1 (by omega) (by omega)]
/-- whether the product q is in the cone of the head h with the good letters g -/
def inC (g h q : Int) : Bool := decide ((ex q 0 = ex h 0 ∨ (ex h 0 < ex q 0 ∧ g % 2 = 1)) ∧ (ex q 1 = ex h 1 ∨ (ex h 1 < ex q 1 ∧ g / 2 % 2 = 1)) ∧ (ex q 2 = ex h 2 ∨ (ex h 2 < ex q 2 ∧ g / 4 % 2 = 1)))
set_option maxRecDepth 100000 in
set_option maxHeartbeats 4000000 in
theorem e_isAhead (X : CX) (M : Mem) (a b : Int) (h : Shp M) (ha : isPr a) (hb : isPr b) (ho : 0 ≤ mI M 521 0 ∧ mI M 521 0 ≤ 2) : Ev X y_m_isAhead (0, 0) [aR (some 521), aI a, aI b] M (fun r M' => r = some (aI (if rk (mI M 521 0) b < rk (mI M 521 0) a then 1 else 0)) ∧ M' = M) := by
  refine Ev_of mcd_130 mok_130 (by decide) rfl (Nat.le_of_ble_eq_true rfl) ?_
  rw [show yl 130 = 3 from rfl]
  refine G_w (pfb_ok X) LK_130 (fun i => false) 80 _ _ _ _ ?_
  simp only [f_0, f_s, f_iconst, f_bipush, f_sipush, f_ldc, f_ldc_w, f_ldc2_w, f_ldI, f_ldL, f_ldA, f_iload, f_iload_n, f_lload, f_lload_n, f_aload, f_aload_n, f_istore, f_istore_n, f_lstore, f_lstore_n, f_astore, f_astore_n, f_iinc, f_icI, f_iadd, f_isub, f_imul, f_idiv, f_irem, f_iand, f_ior, f_ixor, f_ishl, f_ishr, f_iushr, f_i2l, f_i2b, f_i2s, f_ladd, f_lmul, f_lcmp, f_dupI, f_dupR, f_dup2, f_pop, f_goto, f_if, f_icmp, f_tab, f_ts0, f_ts1, f_getI, f_getZ, f_getR, f_putI, f_putR, f_gets, f_iald, f_bald, f_aald, f_iast, f_bast, f_aast, f_alen, f_new, f_newa, f_anew, f_virt, f_stat0, f_stat1, f_spec0, f_spec1, f_spec9, f_copy, f_max, f_min, f_cV1, f_cV0, f_cS1, f_cS0, f_iret, f_lret, f_vret, f_kG, pf0, cIg, inR, lget, lset, lset2, clr, entL, cnd, psh, catS, tsw, List.take_succ_cons, List.take_zero, List.drop_succ_cons, List.drop_zero, List.reverse_cons, List.reverse_nil, List.nil_append, List.cons_append, List.length_cons, List.length_nil, List.replicate_succ, List.replicate_zero, Nat.reduceAdd, Nat.reduceSub, Nat.reduceLeDiff, Nat.reduceLT, Nat.reduceEqDiff, Nat.reduceMul, Nat.zero_add, Nat.add_zero, Nat.le_refl, Nat.zero_le, Int.reduceEq, Int.reduceToNat, Int.toNat_natCast, Int.reduceNeg, Int.reduceAdd, Int.reduceSub, Int.reduceMul, Int.reduceLT, Int.reduceLE, Int.reduceDiv, Int.reduceMod, Bool.false_eq_true, ↓reduceIte, true_and, and_true, implies_true, forall_const, true_or, or_true, or_false, false_or, not_true_eq_false, not_false_eq_true, false_implies, Prod.mk.injEq, Fin.val_zero, Fin.val_one, Fin.isValue, Fin.reduceFinMk, Fin.val_two, mR_uI, mK_uI, mN_uI, mI_uR, mK_uR, mN_uR, mR_uC, mK_uC, mN_uC, Option.some.injEq, Sum.inl.injEq, Sum.inr.injEq, decide_true, decide_false, Bool.or_false, Bool.false_or, Bool.or_true, Bool.true_or, Nat.reduceBEq, beq_self_eq_true, show tb 130 = tb_130 from rfl, tb_130, tb_130_0, tb_130_1, pfb, pfb_b, pfb_c, pfb_v, pfa_b, pfa_c, pfa_v, h.mr1, h.mr2, h.mr3, h.mr4, h.mr5, h.mr14, h.mr15, h.mr16, h.mr18, h.mr19, h.mr20, h.mr21, h.mr22, h.mr23, h.mk521, h.mk522, h.mn522, h.mk523, h.mn523, h.mk524, h.mn524, h.mk525, h.mn525, h.mk526, h.mn526, h.mk527, h.mn527, h.mk528, h.mn528, h.mk529, h.mn529, h.mk530, h.mn530, h.mk531, h.mn531, h.mk532, h.mn532, h.mk533, h.mn533, h.mk534, h.mn534, h.mk535, h.mn535, ha, hb]
  have a0 := ex_b a 0; have a1 := ex_b a 1; have a2 := ex_b a 2; have b0 := ex_b b 0; have b1 := ex_b b 1; have b2 := ex_b b 2
  have da := pr_dec ha; have db := pr_dec hb
  have e0 : ∀ p, rk 0 p = p := fun p => rfl
  have e1 : ∀ p, rk 1 p = dg p * 32768 + p := fun p => rfl
  have e2 : ∀ p, isPr p → rk 2 p = dg p * 1024 - ex p 2 * 32 - ex p 1 := fun p _ => rfl
  have f2 := e2 a ha; have f3 := e2 b hb
  unfold isPr at ha hb
  have g1 : dg a = ex a 0 + ex a 1 + ex a 2 := rfl
  have g2 : dg b = ex b 0 + ex b 1 + ex b 2 := rfl
  have : mI M 521 0 = 0 ∨ mI M 521 0 = 1 ∨ mI M 521 0 = 2 := by omega
  rcases this with h9 | h9 | h9 <;> rw [h9]
  · simp only [e0]
    omega
  · simp only [e1]
    omega
  · rw [f2, f3]
    omega
set_option maxRecDepth 100000 in
set_option maxHeartbeats 4000000 in
theorem e_headOf (X : CX) (M : Mem) (b : Int) (h : Shp M) (h0 : 0 ≤ b ∧ b < 124) (h1 : 0 ≤ tmI M (8 + b) 0 ∧ tmI M (8 + b) 0 ≤ 2147483647) : Ev X y_m_headOf (0, 0) [aR (some 521), aI b] M (fun r M' => r = some (aI (tmI M (8 + b) 0 / 32)) ∧ M' = M) := by
  refine Ev_of mcd_141 mok_141 (by decide) rfl (Nat.le_of_ble_eq_true rfl) ?_
  rw [show yl 141 = 2 from rfl]
  refine G_w (pfb_ok X) LK_141 (fun i => false) 80 _ _ _ _ ?_
  simp only [f_0, f_s, f_iconst, f_bipush, f_sipush, f_ldc, f_ldc_w, f_ldc2_w, f_ldI, f_ldL, f_ldA, f_iload, f_iload_n, f_lload, f_lload_n, f_aload, f_aload_n, f_istore, f_istore_n, f_lstore, f_lstore_n, f_astore, f_astore_n, f_iinc, f_icI, f_iadd, f_isub, f_imul, f_idiv, f_irem, f_iand, f_ior, f_ixor, f_ishl, f_ishr, f_iushr, f_i2l, f_i2b, f_i2s, f_ladd, f_lmul, f_lcmp, f_dupI, f_dupR, f_dup2, f_pop, f_goto, f_if, f_icmp, f_tab, f_ts0, f_ts1, f_getI, f_getZ, f_getR, f_putI, f_putR, f_gets, f_iald, f_bald, f_aald, f_iast, f_bast, f_aast, f_alen, f_new, f_newa, f_anew, f_virt, f_stat0, f_stat1, f_spec0, f_spec1, f_spec9, f_copy, f_max, f_min, f_cV1, f_cV0, f_cS1, f_cS0, f_iret, f_lret, f_vret, f_kG, pf0, cIg, inR, lget, lset, lset2, clr, entL, cnd, psh, catS, tsw, List.take_succ_cons, List.take_zero, List.drop_succ_cons, List.drop_zero, List.reverse_cons, List.reverse_nil, List.nil_append, List.cons_append, List.length_cons, List.length_nil, List.replicate_succ, List.replicate_zero, Nat.reduceAdd, Nat.reduceSub, Nat.reduceLeDiff, Nat.reduceLT, Nat.reduceEqDiff, Nat.reduceMul, Nat.zero_add, Nat.add_zero, Nat.le_refl, Nat.zero_le, Int.reduceEq, Int.reduceToNat, Int.toNat_natCast, Int.reduceNeg, Int.reduceAdd, Int.reduceSub, Int.reduceMul, Int.reduceLT, Int.reduceLE, Int.reduceDiv, Int.reduceMod, Bool.false_eq_true, ↓reduceIte, true_and, and_true, implies_true, forall_const, true_or, or_true, or_false, false_or, not_true_eq_false, not_false_eq_true, false_implies, Prod.mk.injEq, Fin.val_zero, Fin.val_one, Fin.isValue, Fin.reduceFinMk, Fin.val_two, mR_uI, mK_uI, mN_uI, mI_uR, mK_uR, mN_uR, mR_uC, mK_uC, mN_uC, Option.some.injEq, Sum.inl.injEq, Sum.inr.injEq, decide_true, decide_false, Bool.or_false, Bool.false_or, Bool.or_true, Bool.true_or, Nat.reduceBEq, beq_self_eq_true, show tb 141 = tb_141 from rfl, tb_141, tb_141_0, pfb, pfb_b, pfb_c, pfb_v, pfa_b, pfa_c, pfa_v, h.mr1, h.mr2, h.mr3, h.mr4, h.mr5, h.mr14, h.mr15, h.mr16, h.mr18, h.mr19, h.mr20, h.mr21, h.mr22, h.mr23, h.mk521, h.mk522, h.mn522, h.mk523, h.mn523, h.mk524, h.mn524, h.mk525, h.mn525, h.mk526, h.mn526, h.mk527, h.mn527, h.mk528, h.mn528, h.mk529, h.mn529, h.mk530, h.mn530, h.mk531, h.mn531, h.mk532, h.mn532, h.mk533, h.mn533, h.mk534, h.mn534, h.mk535, h.mn535, h, h1]
  omega
set_option maxRecDepth 100000 in
set_option maxHeartbeats 4000000 in
theorem e_part (X : CX) (M : Mem) (p : Nat) (i t : Int) (hp : PA M p) (hi : 0 ≤ i ∧ i < 30) : Ev X y_Polynomial_part (0, 0) [aR (some p), aI i, aI t] M (fun r M' => r = some (aI (if mI M p 2 ≤ i then -1 else if t = 0 then mI M (p + 1) i.toNat else mI M (p + 2) i.toNat)) ∧ M' = M) := by
  obtain ⟨p1, p2, p3, p4, p5, p6, p7⟩ := hp
  refine Ev_of mcd_63 mok_63 (by decide) rfl (Nat.le_of_ble_eq_true rfl) ?_
  rw [show yl 63 = 3 from rfl]
  refine G_w (pfb_ok X) LK_63 (fun i => false) 40 _ _ _ _ ?_
  simp only [f_0, f_s, f_iconst, f_bipush, f_sipush, f_ldc, f_ldc_w, f_ldc2_w, f_ldI, f_ldL, f_ldA, f_iload, f_iload_n, f_lload, f_lload_n, f_aload, f_aload_n, f_istore, f_istore_n, f_lstore, f_lstore_n, f_astore, f_astore_n, f_iinc, f_icI, f_iadd, f_isub, f_imul, f_idiv, f_irem, f_iand, f_ior, f_ixor, f_ishl, f_ishr, f_iushr, f_i2l, f_i2b, f_i2s, f_ladd, f_lmul, f_lcmp, f_dupI, f_dupR, f_dup2, f_pop, f_goto, f_if, f_icmp, f_tab, f_ts0, f_ts1, f_getI, f_getZ, f_getR, f_putI, f_putR, f_gets, f_iald, f_bald, f_aald, f_iast, f_bast, f_aast, f_alen, f_new, f_newa, f_anew, f_virt, f_stat0, f_stat1, f_spec0, f_spec1, f_spec9, f_copy, f_max, f_min, f_cV1, f_cV0, f_cS1, f_cS0, f_iret, f_lret, f_vret, f_kG, pf0, cIg, inR, lget, lset, lset2, clr, entL, cnd, psh, catS, tsw, List.take_succ_cons, List.take_zero, List.drop_succ_cons, List.drop_zero, List.reverse_cons, List.reverse_nil, List.nil_append, List.cons_append, List.length_cons, List.length_nil, List.replicate_succ, List.replicate_zero, Nat.reduceAdd, Nat.reduceSub, Nat.reduceLeDiff, Nat.reduceLT, Nat.reduceEqDiff, Nat.reduceMul, Nat.zero_add, Nat.add_zero, Nat.le_refl, Nat.zero_le, Int.reduceEq, Int.reduceToNat, Int.toNat_natCast, Int.reduceNeg, Int.reduceAdd, Int.reduceSub, Int.reduceMul, Int.reduceLT, Int.reduceLE, Int.reduceDiv, Int.reduceMod, Bool.false_eq_true, ↓reduceIte, true_and, and_true, implies_true, forall_const, true_or, or_true, or_false, false_or, not_true_eq_false, not_false_eq_true, false_implies, Prod.mk.injEq, Fin.val_zero, Fin.val_one, Fin.isValue, Fin.reduceFinMk, Fin.val_two, mR_uI, mK_uI, mN_uI, mI_uR, mK_uR, mN_uR, mR_uC, mK_uC, mN_uC, Option.some.injEq, Sum.inl.injEq, Sum.inr.injEq, decide_true, decide_false, Bool.or_false, Bool.false_or, Bool.or_true, Bool.true_or, Nat.reduceBEq, beq_self_eq_true, show tb 63 = tb_63 from rfl, tb_63, tb_63_0, pfb, pfb_b, pfb_c, pfb_v, pfa_b, pfa_c, pfa_v, p1, p2, p3, p4, p5, p6, p7]
  grind
set_option maxRecDepth 100000 in
set_option maxHeartbeats 4000000 in
theorem e_owns (X : CX) (M : Mem) (p : Nat) (q : Int) (hE : Ext M) (hp : PA M p) (hq : isPr q) (hh : isPr (mI M (p + 2) 0)) (hg : 0 ≤ mI M p 3 ∧ mI M p 3 ≤ 7) : Ev X y_Polynomial_owns (0, 0) [aR (some p), aI q] M (fun r M' => r = some (aI (if inC (mI M p 3) (mI M (p + 2) 0) q = true then 1 else 0)) ∧ M' = M) := by
  obtain ⟨p1, p2, p3, p4, p5, p6, p7⟩ := hp
  refine Ev_of mcd_51 mok_51 (by decide) rfl (Nat.le_of_ble_eq_true rfl) ?_
  rw [show yl 51 = 4 from rfl]
  refine G_w (pfb_ok X) LK_51 (fun i => false) 120 _ _ _ _ ?_
  simp only [f_0, f_s, f_iconst, f_bipush, f_sipush, f_ldc, f_ldc_w, f_ldc2_w, f_ldI, f_ldL, f_ldA, f_iload, f_iload_n, f_lload, f_lload_n, f_aload, f_aload_n, f_istore, f_istore_n, f_lstore, f_lstore_n, f_astore, f_astore_n, f_iinc, f_icI, f_iadd, f_isub, f_imul, f_idiv, f_irem, f_iand, f_ior, f_ixor, f_ishl, f_ishr, f_iushr, f_i2l, f_i2b, f_i2s, f_ladd, f_lmul, f_lcmp, f_dupI, f_dupR, f_dup2, f_pop, f_goto, f_if, f_icmp, f_tab, f_ts0, f_ts1, f_getI, f_getZ, f_getR, f_putI, f_putR, f_gets, f_iald, f_bald, f_aald, f_iast, f_bast, f_aast, f_alen, f_new, f_newa, f_anew, f_virt, f_stat0, f_stat1, f_spec0, f_spec1, f_spec9, f_copy, f_max, f_min, f_cV1, f_cV0, f_cS1, f_cS0, f_iret, f_lret, f_vret, f_kG, pf0, cIg, inR, lget, lset, lset2, clr, entL, cnd, psh, catS, tsw, List.take_succ_cons, List.take_zero, List.drop_succ_cons, List.drop_zero, List.reverse_cons, List.reverse_nil, List.nil_append, List.cons_append, List.length_cons, List.length_nil, List.replicate_succ, List.replicate_zero, Nat.reduceAdd, Nat.reduceSub, Nat.reduceLeDiff, Nat.reduceLT, Nat.reduceEqDiff, Nat.reduceMul, Nat.zero_add, Nat.add_zero, Nat.le_refl, Nat.zero_le, Int.reduceEq, Int.reduceToNat, Int.toNat_natCast, Int.reduceNeg, Int.reduceAdd, Int.reduceSub, Int.reduceMul, Int.reduceLT, Int.reduceLE, Int.reduceDiv, Int.reduceMod, Bool.false_eq_true, ↓reduceIte, true_and, and_true, implies_true, forall_const, true_or, or_true, or_false, false_or, not_true_eq_false, not_false_eq_true, false_implies, Prod.mk.injEq, Fin.val_zero, Fin.val_one, Fin.isValue, Fin.reduceFinMk, Fin.val_two, mR_uI, mK_uI, mN_uI, mI_uR, mK_uR, mN_uR, mR_uC, mK_uC, mN_uC, Option.some.injEq, Sum.inl.injEq, Sum.inr.injEq, decide_true, decide_false, Bool.or_false, Bool.false_or, Bool.or_true, Bool.true_or, Nat.reduceBEq, beq_self_eq_true, show tb 51 = tb_51 from rfl, tb_51, tb_51_0, tb_51_1, pfb, pfb_b, pfb_c, pfb_v, pfa_b, pfa_c, pfa_v, p1, p2, p3, p4, p5, p6, p7, hE, hq, hh]
  rw [bt_0 hg, bt_1 hg, bt_2 hg]
  simp only [inC, decide_eq_true_eq]
  generalize mI M p 3 = g at *
  generalize mI M (p + 2) 0 = hd at *
  have a0 := ex_b q 0; have a1 := ex_b q 1; have a2 := ex_b q 2; have b0 := ex_b hd 0; have b1 := ex_b hd 1; have b2 := ex_b hd 2
  generalize ex q 0 = u0 at *; generalize ex q 1 = u1 at *; generalize ex q 2 = u2 at *; generalize ex hd 0 = v0 at *; generalize ex hd 1 = v1 at *; generalize ex hd 2 = v2 at *
  clear hE hq hh p1 p2 p3 p4 p5 p6 p7
  have c0 : g % 2 = 0 ∨ g % 2 = 1 := by omega
  have c1 : g / 2 % 2 = 0 ∨ g / 2 % 2 = 1 := by omega
  have c2 : g / 4 % 2 = 0 ∨ g / 4 % 2 = 1 := by omega
  generalize g % 2 = r0 at *; generalize g / 2 % 2 = r1 at *; generalize g / 4 % 2 = r2 at *
  omega
