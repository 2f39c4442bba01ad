/-! refresh: the basis, the values -/
set_option maxRecDepth 100000 in
set_option maxHeartbeats 4000000 in
theorem r_segB (X : CX) (M : Mem) (T : Tx) (n : Int) (hn : n = 1 ∨ n = 2 ∨ n = 4) (M1 : Mem) (v2 : Option AV) (hC : CI M1 T) (hS : Smr M M1 XR dyn) (hf : mI M1 0 14 = mI M 0 14) (hk1 : iAnd (mI M1 0 3) 1 ≠ 0) : G X y_x_refresh (mZ M, mS M, 0, 0) 40 [some (aR (some 0)), some (aI n), v2] [] M1 (RF M T n) := by
  have hC0 := hC
  obtain ⟨hs, hT, hO, hk, hV, hB, hN, hP, hY⟩ := hC
  have k0 := hs.xk0
  have big := big_gt
  by_cases h2 : n < 2
  · refine G_w (pfb_ok X) LK_16 (fun i => i == 62) 10 _ _ _ _ ?_
    simp only [f_0, f_s, f_iconst, f_bipush, f_sipush, f_ldc, f_ldc_w, f_ldc2_w, f_ldI, f_ldL, f_ldA, f_iload, f_iload_n, f_lload, f_lload_n, f_aload, f_aload_n, f_istore, f_istore_n, f_lstore, f_lstore_n, f_astore, f_astore_n, f_iinc, f_icI, f_iadd, f_isub, f_imul, f_idiv, f_irem, f_iand, f_ior, f_ixor, f_ishl, f_ishr, f_iushr, f_i2l, f_i2b, f_i2s, f_ladd, f_lmul, f_lcmp, f_dupI, f_dupR, f_dup2, f_pop, f_goto, f_if, f_icmp, f_tab, f_ts0, f_ts1, f_getI, f_getZ, f_getR, f_putI, f_putR, f_gets, f_iald, f_bald, f_aald, f_iast, f_bast, f_aast, f_alen, f_new, f_newa, f_anew, f_virt, f_stat0, f_stat1, f_spec0, f_spec1, f_spec9, f_copy, f_max, f_min, f_cV1, f_cV0, f_cS1, f_cS0, f_iret, f_lret, f_vret, f_kG, pf0, cIg, inR, lget, lset, lset2, clr, entL, cnd, psh, catS, tsw, List.take_succ_cons, List.take_zero, List.drop_succ_cons, List.drop_zero, List.reverse_cons, List.reverse_nil, List.nil_append, List.cons_append, List.length_cons, List.length_nil, List.replicate_succ, List.replicate_zero, Nat.reduceAdd, Nat.reduceSub, Nat.reduceLeDiff, Nat.reduceLT, Nat.reduceEqDiff, Nat.reduceMul, Nat.zero_add, Nat.add_zero, Nat.le_refl, Nat.zero_le, Int.reduceEq, Int.reduceToNat, Int.toNat_natCast, Int.reduceNeg, Int.reduceAdd, Int.reduceSub, Int.reduceMul, Int.reduceLT, Int.reduceLE, Int.reduceDiv, Int.reduceMod, Bool.false_eq_true, ↓reduceIte, true_and, and_true, implies_true, forall_const, true_or, or_true, or_false, false_or, not_true_eq_false, not_false_eq_true, false_implies, Prod.mk.injEq, Fin.val_zero, Fin.val_one, Fin.isValue, Fin.reduceFinMk, Fin.val_two, mR_uI, mK_uI, mN_uI, mI_uR, mK_uR, mN_uR, mR_uC, mK_uC, mN_uC, Option.some.injEq, Sum.inl.injEq, Sum.inr.injEq, decide_true, decide_false, Bool.or_false, Bool.false_or, Bool.or_true, Bool.true_or, Nat.reduceBEq, beq_self_eq_true, show tb 16 = tb_16 from rfl, tb_16, tb_16_0, tb_16_1, tb_16_2, tb_16_3, pfb, pfb_b, pfb_c, pfb_v, pfa_b, pfa_c, pfa_v, h2]
    exact r_segC X M T n hn M1 v2 hC0 hS hf hk1 (fun h => by omega)
  · by_cases hb : iAnd (mI M1 0 3) 2 = 0
    · have hV1 := hV hk1
      have x5 := hs.xr5
      have x1 := hs.xr1
      have z5 := hs.xk361
      have hva := VA_gens hs hV1
      have ho := hV1.1
      have hO0 := hO
      obtain ⟨ps, ps2, qs, o1, o2, c1, c2, c3, c4, c5⟩ := hO
      refine G_w (pfb_ok X) LK_16 (fun i => false) 40 _ _ _ _ ?_
      simp only [f_0, f_s, f_iconst, f_bipush, f_sipush, f_ldc, f_ldc_w, f_ldc2_w, f_ldI, f_ldL, f_ldA, f_iload, f_iload_n, f_lload, f_lload_n, f_aload, f_aload_n, f_istore, f_istore_n, f_lstore, f_lstore_n, f_astore, f_astore_n, f_iinc, f_icI, f_iadd, f_isub, f_imul, f_idiv, f_irem, f_iand, f_ior, f_ixor, f_ishl, f_ishr, f_iushr, f_i2l, f_i2b, f_i2s, f_ladd, f_lmul, f_lcmp, f_dupI, f_dupR, f_dup2, f_pop, f_goto, f_if, f_icmp, f_tab, f_ts0, f_ts1, f_getI, f_getZ, f_getR, f_putI, f_putR, f_gets, f_iald, f_bald, f_aald, f_iast, f_bast, f_aast, f_alen, f_new, f_newa, f_anew, f_virt, f_stat0, f_stat1, f_spec0, f_spec1, f_spec9, f_copy, f_max, f_min, f_cV1, f_cV0, f_cS1, f_cS0, f_iret, f_lret, f_vret, f_kG, pf0, cIg, inR, lget, lset, lset2, clr, entL, cnd, psh, catS, tsw, List.take_succ_cons, List.take_zero, List.drop_succ_cons, List.drop_zero, List.reverse_cons, List.reverse_nil, List.nil_append, List.cons_append, List.length_cons, List.length_nil, List.replicate_succ, List.replicate_zero, Nat.reduceAdd, Nat.reduceSub, Nat.reduceLeDiff, Nat.reduceLT, Nat.reduceEqDiff, Nat.reduceMul, Nat.zero_add, Nat.add_zero, Nat.le_refl, Nat.zero_le, Int.reduceEq, Int.reduceToNat, Int.toNat_natCast, Int.reduceNeg, Int.reduceAdd, Int.reduceSub, Int.reduceMul, Int.reduceLT, Int.reduceLE, Int.reduceDiv, Int.reduceMod, Bool.false_eq_true, ↓reduceIte, true_and, and_true, implies_true, forall_const, true_or, or_true, or_false, false_or, not_true_eq_false, not_false_eq_true, false_implies, Prod.mk.injEq, Fin.val_zero, Fin.val_one, Fin.isValue, Fin.reduceFinMk, Fin.val_two, mR_uI, mK_uI, mN_uI, mI_uR, mK_uR, mN_uR, mR_uC, mK_uC, mN_uC, Option.some.injEq, Sum.inl.injEq, Sum.inr.injEq, decide_true, decide_false, Bool.or_false, Bool.false_or, Bool.or_true, Bool.true_or, Nat.reduceBEq, beq_self_eq_true, show tb 16 = tb_16 from rfl, tb_16, tb_16_0, tb_16_1, tb_16_2, tb_16_3, pfb, pfb_b, pfb_c, pfb_v, pfa_b, pfa_c, pfa_v, k0, h2, hb, x5, x1, z5, ho]
      refine Ev_mono (e_complete X M1 361 2 (ordT T) o1 (-1) ps qs _ (gens T) c1 (orN_b _) c3 c5 hva (gens_nd T)) (fun r M2 hr _ _ => ?_)
      have hD : CD M1 361 (ordT T) (cmT T) r M2 := hr
      have hO2 := hO0.cm (Or.inl rfl) hD
      obtain ⟨rfl, w1, w2, w3, w4, ps', qs', w5, w6, w7⟩ := hD
      have hs2 := w1.shp hs (fun a ha => by unfold CRc CR; omega) (fun a h => by unfold CQ at h; unfold dyn; omega)
      have y0 := hs2.xk0
      have ko := w1.2.2.2 0 3 (by unfold CRc CR; omega)
      simp only [f_kG, psh, Nat.reduceAdd]
      refine G_w (pfb_ok X) LK_16 (fun i => i == 62) 40 _ _ _ _ ?_
      simp only [f_0, f_s, f_iconst, f_bipush, f_sipush, f_ldc, f_ldc_w, f_ldc2_w, f_ldI, f_ldL, f_ldA, f_iload, f_iload_n, f_lload, f_lload_n, f_aload, f_aload_n, f_istore, f_istore_n, f_lstore, f_lstore_n, f_astore, f_astore_n, f_iinc, f_icI, f_iadd, f_isub, f_imul, f_idiv, f_irem, f_iand, f_ior, f_ixor, f_ishl, f_ishr, f_iushr, f_i2l, f_i2b, f_i2s, f_ladd, f_lmul, f_lcmp, f_dupI, f_dupR, f_dup2, f_pop, f_goto, f_if, f_icmp, f_tab, f_ts0, f_ts1, f_getI, f_getZ, f_getR, f_putI, f_putR, f_gets, f_iald, f_bald, f_aald, f_iast, f_bast, f_aast, f_alen, f_new, f_newa, f_anew, f_virt, f_stat0, f_stat1, f_spec0, f_spec1, f_spec9, f_copy, f_max, f_min, f_cV1, f_cV0, f_cS1, f_cS0, f_iret, f_lret, f_vret, f_kG, pf0, cIg, inR, lget, lset, lset2, clr, entL, cnd, psh, catS, tsw, List.take_succ_cons, List.take_zero, List.drop_succ_cons, List.drop_zero, List.reverse_cons, List.reverse_nil, List.nil_append, List.cons_append, List.length_cons, List.length_nil, List.replicate_succ, List.replicate_zero, Nat.reduceAdd, Nat.reduceSub, Nat.reduceLeDiff, Nat.reduceLT, Nat.reduceEqDiff, Nat.reduceMul, Nat.zero_add, Nat.add_zero, Nat.le_refl, Nat.zero_le, Int.reduceEq, Int.reduceToNat, Int.toNat_natCast, Int.reduceNeg, Int.reduceAdd, Int.reduceSub, Int.reduceMul, Int.reduceLT, Int.reduceLE, Int.reduceDiv, Int.reduceMod, Bool.false_eq_true, ↓reduceIte, true_and, and_true, implies_true, forall_const, true_or, or_true, or_false, false_or, not_true_eq_false, not_false_eq_true, false_implies, Prod.mk.injEq, Fin.val_zero, Fin.val_one, Fin.isValue, Fin.reduceFinMk, Fin.val_two, mR_uI, mK_uI, mN_uI, mI_uR, mK_uR, mN_uR, mR_uC, mK_uC, mN_uC, Option.some.injEq, Sum.inl.injEq, Sum.inr.injEq, decide_true, decide_false, Bool.or_false, Bool.false_or, Bool.or_true, Bool.true_or, Nat.reduceBEq, beq_self_eq_true, show tb 16 = tb_16 from rfl, tb_16, tb_16_0, tb_16_1, tb_16_2, tb_16_3, pfb, pfb_b, pfb_c, pfb_v, pfa_b, pfa_c, pfa_v, y0, ko]
      obtain ⟨kr, kj⟩ := kset hk 1 (by omega)
      refine r_segC X M T n hn _ v2 (CI.upd ?_) ?_ ?_ ?_ (fun _ => ?_)
      · rw [w1.2.2.2 0 4 (by unfold CRc CR; omega), w1.2.2.2 0 8 (by unfold CRc CR; omega), w1.2.2.2 0 10 (by unfold CRc CR; omega)]
        exact ⟨hs2, hT.sm w1.2.2.2 (fun a _ _ => by unfold CRc CR; omega), hO2, kr, fun _ => hV1.sm w1.2.2.2 (fun a _ _ => by unfold CRc CR; omega), fun _ => ⟨w2, w3, w5.2.2.2.1, w4, ps', w5.2.2.2.2.2.2.1, w6⟩, fun h => (hN (by rw [show iAnd (iOr (mI M1 0 3) 2) 4 = iAnd (mI M1 0 3) 4 from kj 2 (by omega)] at h; exact h)).sm w1.2.2.2 (fun a _ _ => by unfold CRc CR; omega), fun h => hP (by rw [show iAnd (iOr (mI M1 0 3) 2) 8 = iAnd (mI M1 0 3) 8 from kj 3 (by omega)] at h; exact h), fun j hj h => (hY j hj (by rw [show iAnd (iOr (mI M1 0 3) 2) (bt (4 + j)) = iAnd (mI M1 0 3) (bt (4 + j)) from (kj (4 + j) (by omega)).trans (if_neg (by omega))] at h; exact h)).sm w1.2.2.2 (by unfold CRc CR; omega)⟩
      · exact (hS.tr (w1.w (fun a h => by unfold CRc CR at h; unfold XR; omega) (fun a h => by unfold CQ at h; unfold dyn; omega))).uI (by unfold XR; omega) _ _
      · rw [mI_uI_nk (by omega), w1.2.2.2 0 14 (by unfold CRc CR; omega), hf]
      · rw [mI_uI_eq, show iAnd (iOr (mI M1 0 3) 2) 1 = iAnd (mI M1 0 3) 1 from kj 0 (by omega)]; exact hk1
      · rw [mI_uI_eq, show iAnd (iOr (mI M1 0 3) 2) 2 = 2 from kj 1 (by omega)]; omega
    · refine G_w (pfb_ok X) LK_16 (fun i => i == 62) 20 _ _ _ _ ?_
      simp only [f_0, f_s, f_iconst, f_bipush, f_sipush, f_ldc, f_ldc_w, f_ldc2_w, f_ldI, f_ldL, f_ldA, f_iload, f_iload_n, f_lload, f_lload_n, f_aload, f_aload_n, f_istore, f_istore_n, f_lstore, f_lstore_n, f_astore, f_astore_n, f_iinc, f_icI, f_iadd, f_isub, f_imul, f_idiv, f_irem, f_iand, f_ior, f_ixor, f_ishl, f_ishr, f_iushr, f_i2l, f_i2b, f_i2s, f_ladd, f_lmul, f_lcmp, f_dupI, f_dupR, f_dup2, f_pop, f_goto, f_if, f_icmp, f_tab, f_ts0, f_ts1, f_getI, f_getZ, f_getR, f_putI, f_putR, f_gets, f_iald, f_bald, f_aald, f_iast, f_bast, f_aast, f_alen, f_new, f_newa, f_anew, f_virt, f_stat0, f_stat1, f_spec0, f_spec1, f_spec9, f_copy, f_max, f_min, f_cV1, f_cV0, f_cS1, f_cS0, f_iret, f_lret, f_vret, f_kG, pf0, cIg, inR, lget, lset, lset2, clr, entL, cnd, psh, catS, tsw, List.take_succ_cons, List.take_zero, List.drop_succ_cons, List.drop_zero, List.reverse_cons, List.reverse_nil, List.nil_append, List.cons_append, List.length_cons, List.length_nil, List.replicate_succ, List.replicate_zero, Nat.reduceAdd, Nat.reduceSub, Nat.reduceLeDiff, Nat.reduceLT, Nat.reduceEqDiff, Nat.reduceMul, Nat.zero_add, Nat.add_zero, Nat.le_refl, Nat.zero_le, Int.reduceEq, Int.reduceToNat, Int.toNat_natCast, Int.reduceNeg, Int.reduceAdd, Int.reduceSub, Int.reduceMul, Int.reduceLT, Int.reduceLE, Int.reduceDiv, Int.reduceMod, Bool.false_eq_true, ↓reduceIte, true_and, and_true, implies_true, forall_const, true_or, or_true, or_false, false_or, not_true_eq_false, not_false_eq_true, false_implies, Prod.mk.injEq, Fin.val_zero, Fin.val_one, Fin.isValue, Fin.reduceFinMk, Fin.val_two, mR_uI, mK_uI, mN_uI, mI_uR, mK_uR, mN_uR, mR_uC, mK_uC, mN_uC, Option.some.injEq, Sum.inl.injEq, Sum.inr.injEq, decide_true, decide_false, Bool.or_false, Bool.false_or, Bool.or_true, Bool.true_or, Nat.reduceBEq, beq_self_eq_true, show tb 16 = tb_16 from rfl, tb_16, tb_16_0, tb_16_1, tb_16_2, tb_16_3, pfb, pfb_b, pfb_c, pfb_v, pfa_b, pfa_c, pfa_v, k0, h2, hb]
      exact r_segC X M T n hn M1 v2 hC0 hS hf hk1 (fun _ => hb)
abbrev TV : Nat → Prop := fun a => a = 3 ∨ (14 ≤ a ∧ a ≤ 28 ∧ a % 2 = 0) ∨ (30 ≤ a ∧ a ≤ 50)
set_option maxRecDepth 100000 in
set_option maxHeartbeats 4000000 in
theorem e_refresh (X : CX) (hFO : FOK X) (M : Mem) (T : Tx) (n : Int) (hn : n = 1 ∨ n = 2 ∨ n = 4) (hC : CI M T) : Ev X y_x_refresh (0, 0) [aR (some 0), aI n] M (RF M T n) := by
  have hC0 := hC
  obtain ⟨hs, hT, hO, hk, hV, hB, hN, hP, hY⟩ := hC
  have k0 := hs.xk0
  have big := big_gt
  have hSr : Smr M M XR dyn := Smr.rf _ _ _
  by_cases hb : iAnd (mI M 0 3) 1 = 0
  · have x0 := hs.xr0
    have q7 := (hs.t (t := 7) (by omega)).1
    have k1 := hs.xk1
    have n1 := hs.xn1
    have k28 := (hs.t (t := 7) (by omega)).2.1
    obtain ⟨t1, t2, t3, t4⟩ := hT 7 (by omega)
    refine Ev_of mcd_16 mok_16 (by decide) rfl (Nat.le_of_ble_eq_true rfl) ?_
    rw [show yl 16 = 3 from rfl]
    refine G_w (pfb_ok X) LK_16 (fun i => i == 14 || i == 34 || i == 40) 20 _ _ _ _ ?_
    simp only [f_0, f_s, f_iconst, f_bipush, f_sipush, f_ldc, f_ldc_w, f_ldc2_w, f_ldI, f_ldL, f_ldA, f_iload, f_iload_n, f_lload, f_lload_n, f_aload, f_aload_n, f_istore, f_istore_n, f_lstore, f_lstore_n, f_astore, f_astore_n, f_iinc, f_icI, f_iadd, f_isub, f_imul, f_idiv, f_irem, f_iand, f_ior, f_ixor, f_ishl, f_ishr, f_iushr, f_i2l, f_i2b, f_i2s, f_ladd, f_lmul, f_lcmp, f_dupI, f_dupR, f_dup2, f_pop, f_goto, f_if, f_icmp, f_tab, f_ts0, f_ts1, f_getI, f_getZ, f_getR, f_putI, f_putR, f_gets, f_iald, f_bald, f_aald, f_iast, f_bast, f_aast, f_alen, f_new, f_newa, f_anew, f_virt, f_stat0, f_stat1, f_spec0, f_spec1, f_spec9, f_copy, f_max, f_min, f_cV1, f_cV0, f_cS1, f_cS0, f_iret, f_lret, f_vret, f_kG, pf0, cIg, inR, lget, lset, lset2, clr, entL, cnd, psh, catS, tsw, List.take_succ_cons, List.take_zero, List.drop_succ_cons, List.drop_zero, List.reverse_cons, List.reverse_nil, List.nil_append, List.cons_append, List.length_cons, List.length_nil, List.replicate_succ, List.replicate_zero, Nat.reduceAdd, Nat.reduceSub, Nat.reduceLeDiff, Nat.reduceLT, Nat.reduceEqDiff, Nat.reduceMul, Nat.zero_add, Nat.add_zero, Nat.le_refl, Nat.zero_le, Int.reduceEq, Int.reduceToNat, Int.toNat_natCast, Int.reduceNeg, Int.reduceAdd, Int.reduceSub, Int.reduceMul, Int.reduceLT, Int.reduceLE, Int.reduceDiv, Int.reduceMod, Bool.false_eq_true, ↓reduceIte, true_and, and_true, implies_true, forall_const, true_or, or_true, or_false, false_or, not_true_eq_false, not_false_eq_true, false_implies, Prod.mk.injEq, Fin.val_zero, Fin.val_one, Fin.isValue, Fin.reduceFinMk, Fin.val_two, mR_uI, mK_uI, mN_uI, mI_uR, mK_uR, mN_uR, mR_uC, mK_uC, mN_uC, Option.some.injEq, Sum.inl.injEq, Sum.inr.injEq, decide_true, decide_false, Bool.or_false, Bool.false_or, Bool.or_true, Bool.true_or, Nat.reduceBEq, beq_self_eq_true, show tb 16 = tb_16 from rfl, tb_16, tb_16_0, tb_16_1, tb_16_2, tb_16_3, pfb, pfb_b, pfb_c, pfb_v, pfa_b, pfa_c, pfa_v, k0, hb, x0, q7, k1, n1, k28]
    refine ⟨by omega, ?_⟩
    refine Ev_mono (hFO M 28 (T 7) (hs.t (t := 7) (by omega)).2 t1 t2 t3) (fun r M1 hr _ _ => ?_)
    obtain ⟨rfl, w1, w2, w3⟩ := hr
    have hs1 := w3.shp hs (fun a ha => by omega)
    have y0 := hs1.xk0
    simp only [f_kG, psh, Nat.reduceAdd]
    refine G_w (pfb_ok X) LK_16 (fun i => i == 14 || i == 34 || i == 40) 20 _ _ _ _ ?_
    simp only [f_0, f_s, f_iconst, f_bipush, f_sipush, f_ldc, f_ldc_w, f_ldc2_w, f_ldI, f_ldL, f_ldA, f_iload, f_iload_n, f_lload, f_lload_n, f_aload, f_aload_n, f_istore, f_istore_n, f_lstore, f_lstore_n, f_astore, f_astore_n, f_iinc, f_icI, f_iadd, f_isub, f_imul, f_idiv, f_irem, f_iand, f_ior, f_ixor, f_ishl, f_ishr, f_iushr, f_i2l, f_i2b, f_i2s, f_ladd, f_lmul, f_lcmp, f_dupI, f_dupR, f_dup2, f_pop, f_goto, f_if, f_icmp, f_tab, f_ts0, f_ts1, f_getI, f_getZ, f_getR, f_putI, f_putR, f_gets, f_iald, f_bald, f_aald, f_iast, f_bast, f_aast, f_alen, f_new, f_newa, f_anew, f_virt, f_stat0, f_stat1, f_spec0, f_spec1, f_spec9, f_copy, f_max, f_min, f_cV1, f_cV0, f_cS1, f_cS0, f_iret, f_lret, f_vret, f_kG, pf0, cIg, inR, lget, lset, lset2, clr, entL, cnd, psh, catS, tsw, List.take_succ_cons, List.take_zero, List.drop_succ_cons, List.drop_zero, List.reverse_cons, List.reverse_nil, List.nil_append, List.cons_append, List.length_cons, List.length_nil, List.replicate_succ, List.replicate_zero, Nat.reduceAdd, Nat.reduceSub, Nat.reduceLeDiff, Nat.reduceLT, Nat.reduceEqDiff, Nat.reduceMul, Nat.zero_add, Nat.add_zero, Nat.le_refl, Nat.zero_le, Int.reduceEq, Int.reduceToNat, Int.toNat_natCast, Int.reduceNeg, Int.reduceAdd, Int.reduceSub, Int.reduceMul, Int.reduceLT, Int.reduceLE, Int.reduceDiv, Int.reduceMod, Bool.false_eq_true, ↓reduceIte, true_and, and_true, implies_true, forall_const, true_or, or_true, or_false, false_or, not_true_eq_false, not_false_eq_true, false_implies, Prod.mk.injEq, Fin.val_zero, Fin.val_one, Fin.isValue, Fin.reduceFinMk, Fin.val_two, mR_uI, mK_uI, mN_uI, mI_uR, mK_uR, mN_uR, mR_uC, mK_uC, mN_uC, Option.some.injEq, Sum.inl.injEq, Sum.inr.injEq, decide_true, decide_false, Bool.or_false, Bool.false_or, Bool.or_true, Bool.true_or, Nat.reduceBEq, beq_self_eq_true, show tb 16 = tb_16 from rfl, tb_16, tb_16_0, tb_16_1, tb_16_2, tb_16_3, pfb, pfb_b, pfb_c, pfb_v, pfa_b, pfa_c, pfa_v, y0]
    have hSu : Same M (uI M1 0 4 (orN (T 7))) (fun a => a = 28 ∨ a = 0) := Same.uI (S := fun a => a = 28 ∨ a = 0) (w3.w (fun a h => Or.inl h)) (Or.inr rfl) 4 _
    have e4 : mI (uI M1 0 4 (orN (T 7))) 0 4 = ordT T := mI_uI_eq
    have ez : ∀ k, k ≠ 4 → mI (uI M1 0 4 (orN (T 7))) 0 k = mI M 0 k := fun k hk => (mI_uI_nk hk).trans (w3.2.2.2 0 k (by omega))
    have f28 : mI (uI M1 0 4 (orN (T 7))) 28 2 = fltT T 7 := by rw [mI_uI_ne (by omega), w1]; rfl
    have g28 : mI (uI M1 0 4 (orN (T 7))) 28 1 = mI M 28 1 := by rw [mI_uI_ne (by omega), w2]
    generalize uI M1 0 4 (orN (T 7)) = M2 at hSu e4 ez f28 g28 ⊢
    have hs2 := hSu.shp hs (fun a ha => by omega)
    have hT2 : TX M2 T := by
      intro t ht
      obtain ⟨a1, a2, a3, a4⟩ := hT t ht
      refine ⟨?_, fun j b hb => (hSu.2.2.2 _ _ (by omega)).trans (a2 j b hb), a3, a4⟩
      by_cases h7 : t = 7
      · subst h7; exact g28.trans a1
      · exact (hSu.2.2.2 _ _ (by omega)).trans a1
    have loop : ∀ (d t : Nat) (M3 : Mem), t + d = 7 → Same M2 M3 TV → TX M3 T → mI M3 28 2 = fltT T 7 → (∀ u, u < t → mI M3 (14 + 2 * u) 2 = fltT T u ∧ PL M3 (30 + 3 * u) (valT T u)) → G X y_x_refresh (mZ M, mS M, 0, 0) 14 [some (aR (some 0)), some (aI n), some (aI t)] [] M3 (RF M T n) := by
      intro d
      induction d with
      | zero =>
        intro t M3 ht hS3 hT3 h28 hu
        have ht7 : t = 7 := by omega
        subst ht7
        have hs3 := hS3.shp hs2 (fun a ha => by unfold TV; omega)
        have y0 := hs3.xk0
        have y1 := hs3.xr1
        have y2 := hs3.xk2
        have y3 := hs3.xn2
        have ko : mI M3 0 3 = mI M 0 3 := (hS3.2.2.2 0 3 (by unfold TV; omega)).trans (ez 3 (by omega))
        refine G_w (pfb_ok X) LK_16 (fun i => i == 14 || i == 40) 20 _ _ _ _ ?_
        simp only [f_0, f_s, f_iconst, f_bipush, f_sipush, f_ldc, f_ldc_w, f_ldc2_w, f_ldI, f_ldL, f_ldA, f_iload, f_iload_n, f_lload, f_lload_n, f_aload, f_aload_n, f_istore, f_istore_n, f_lstore, f_lstore_n, f_astore, f_astore_n, f_iinc, f_icI, f_iadd, f_isub, f_imul, f_idiv, f_irem, f_iand, f_ior, f_ixor, f_ishl, f_ishr, f_iushr, f_i2l, f_i2b, f_i2s, f_ladd, f_lmul, f_lcmp, f_dupI, f_dupR, f_dup2, f_pop, f_goto, f_if, f_icmp, f_tab, f_ts0, f_ts1, f_getI, f_getZ, f_getR, f_putI, f_putR, f_gets, f_iald, f_bald, f_aald, f_iast, f_bast, f_aast, f_alen, f_new, f_newa, f_anew, f_virt, f_stat0, f_stat1, f_spec0, f_spec1, f_spec9, f_copy, f_max, f_min, f_cV1, f_cV0, f_cS1, f_cS0, f_iret, f_lret, f_vret, f_kG, pf0, cIg, inR, lget, lset, lset2, clr, entL, cnd, psh, catS, tsw, List.take_succ_cons, List.take_zero, List.drop_succ_cons, List.drop_zero, List.reverse_cons, List.reverse_nil, List.nil_append, List.cons_append, List.length_cons, List.length_nil, List.replicate_succ, List.replicate_zero, Nat.reduceAdd, Nat.reduceSub, Nat.reduceLeDiff, Nat.reduceLT, Nat.reduceEqDiff, Nat.reduceMul, Nat.zero_add, Nat.add_zero, Nat.le_refl, Nat.zero_le, Int.reduceEq, Int.reduceToNat, Int.toNat_natCast, Int.reduceNeg, Int.reduceAdd, Int.reduceSub, Int.reduceMul, Int.reduceLT, Int.reduceLE, Int.reduceDiv, Int.reduceMod, Bool.false_eq_true, ↓reduceIte, true_and, and_true, implies_true, forall_const, true_or, or_true, or_false, false_or, not_true_eq_false, not_false_eq_true, false_implies, Prod.mk.injEq, Fin.val_zero, Fin.val_one, Fin.isValue, Fin.reduceFinMk, Fin.val_two, mR_uI, mK_uI, mN_uI, mI_uR, mK_uR, mN_uR, mR_uC, mK_uC, mN_uC, Option.some.injEq, Sum.inl.injEq, Sum.inr.injEq, decide_true, decide_false, Bool.or_false, Bool.false_or, Bool.or_true, Bool.true_or, Nat.reduceBEq, beq_self_eq_true, show tb 16 = tb_16 from rfl, tb_16, tb_16_0, tb_16_1, tb_16_2, tb_16_3, pfb, pfb_b, pfb_c, pfb_v, pfa_b, pfa_c, pfa_v, y0, y1, y2, y3, ko]
        obtain ⟨kr, kj⟩ := kset hk 0 (by omega)
        have hSm : Smr M M3 (fun a => TV a ∨ a = 0) (fun _ => False) := ((hSu.smr (fun _ => False)).w (fun a h => by unfold TV; omega) (fun _ h => h)).tr ((hS3.smr (fun _ => False)).w (fun a h => Or.inl h) (fun _ h => h))
        refine ⟨fun _ => r_segB X M T n hn _ _ (CI.upd ?_) ?_ ?_ ?_, fun h => by omega⟩
        · rw [hS3.2.2.2 0 4 (by unfold TV; omega), e4, hS3.2.2.2 0 8 (by unfold TV; omega), ez 8 (by omega), hS3.2.2.2 0 10 (by unfold TV; omega), ez 10 (by omega)]
          refine ⟨hs3, hT3, hO.sm hSm (fun a ha => by unfold TV; omega) (by unfold TV; omega), kr, fun _ => ⟨rfl, fun t ht => ?_, fun t ht => (hu t ht).2⟩, fun h => (hB (by rw [show iAnd (iOr (mI M 0 3) 1) 2 = iAnd (mI M 0 3) 2 from kj 1 (by omega)] at h; exact h)).sm hSm (fun a _ _ => ⟨by unfold TV; omega, fun h => h⟩), fun h => (hN (by rw [show iAnd (iOr (mI M 0 3) 1) 4 = iAnd (mI M 0 3) 4 from kj 2 (by omega)] at h; exact h)).sm hSm.2.2.2 (fun a _ _ => by unfold TV; omega), fun h => hP (by rw [show iAnd (iOr (mI M 0 3) 1) 8 = iAnd (mI M 0 3) 8 from kj 3 (by omega)] at h; exact h), fun j hj h => (hY j hj (by rw [show iAnd (iOr (mI M 0 3) 1) (bt (4 + j)) = iAnd (mI M 0 3) (bt (4 + j)) from (kj (4 + j) (by omega)).trans (if_neg (by omega))] at h; exact h)).sm hSm.2.2.2 (by unfold TV; omega)⟩
          by_cases h7 : t = 7
          · subst h7; exact h28
          · exact (hu t (by omega)).1
        · exact ((hSm.w (fun a h => by unfold TV at h; unfold XR; omega) (fun a h => h.elim)).uI (by unfold XR; omega) _ _)
        · rw [mI_uI_nk (by omega), hS3.2.2.2 0 14 (by unfold TV; omega), ez 14 (by omega)]
        · rw [mI_uI_eq, show iAnd (iOr (mI M 0 3) 1) 1 = 1 from kj 0 (by omega)]; omega
      | succ d ih =>
        intro t M3 ht hS3 hT3 h28 hu
        have hs3 := hS3.shp hs2 (fun a ha => by unfold TV; omega)
        have y0 := hs3.xk0
        have y1 := hs3.xr1
        have y2 := hs3.xk2
        have y3 := hs3.xn2
        have y4 := hs3.xr2
        have y5 := hs3.xr0
        have y6 := hs3.xk1
        have y7 := hs3.xn1
        have y8 := hs3.xk3
        obtain ⟨m1, m2⟩ := hs3.v (t := t) (by omega)
        obtain ⟨m3, m4⟩ := hs3.t (t := t) (by omega)
        have o3 := (hS3.2.2.2 0 4 (by unfold TV; omega)).trans e4
        obtain ⟨t1, t2, t3, t4⟩ := hT3 t (by omega)
        refine G_w (pfb_ok X) LK_16 (fun i => i == 14 || i == 40) 40 _ _ _ _ ?_
        simp only [f_0, f_s, f_iconst, f_bipush, f_sipush, f_ldc, f_ldc_w, f_ldc2_w, f_ldI, f_ldL, f_ldA, f_iload, f_iload_n, f_lload, f_lload_n, f_aload, f_aload_n, f_istore, f_istore_n, f_lstore, f_lstore_n, f_astore, f_astore_n, f_iinc, f_icI, f_iadd, f_isub, f_imul, f_idiv, f_irem, f_iand, f_ior, f_ixor, f_ishl, f_ishr, f_iushr, f_i2l, f_i2b, f_i2s, f_ladd, f_lmul, f_lcmp, f_dupI, f_dupR, f_dup2, f_pop, f_goto, f_if, f_icmp, f_tab, f_ts0, f_ts1, f_getI, f_getZ, f_getR, f_putI, f_putR, f_gets, f_iald, f_bald, f_aald, f_iast, f_bast, f_aast, f_alen, f_new, f_newa, f_anew, f_virt, f_stat0, f_stat1, f_spec0, f_spec1, f_spec9, f_copy, f_max, f_min, f_cV1, f_cV0, f_cS1, f_cS0, f_iret, f_lret, f_vret, f_kG, pf0, cIg, inR, lget, lset, lset2, clr, entL, cnd, psh, catS, tsw, List.take_succ_cons, List.take_zero, List.drop_succ_cons, List.drop_zero, List.reverse_cons, List.reverse_nil, List.nil_append, List.cons_append, List.length_cons, List.length_nil, List.replicate_succ, List.replicate_zero, Nat.reduceAdd, Nat.reduceSub, Nat.reduceLeDiff, Nat.reduceLT, Nat.reduceEqDiff, Nat.reduceMul, Nat.zero_add, Nat.add_zero, Nat.le_refl, Nat.zero_le, Int.reduceEq, Int.reduceToNat, Int.toNat_natCast, Int.reduceNeg, Int.reduceAdd, Int.reduceSub, Int.reduceMul, Int.reduceLT, Int.reduceLE, Int.reduceDiv, Int.reduceMod, Bool.false_eq_true, ↓reduceIte, true_and, and_true, implies_true, forall_const, true_or, or_true, or_false, false_or, not_true_eq_false, not_false_eq_true, false_implies, Prod.mk.injEq, Fin.val_zero, Fin.val_one, Fin.isValue, Fin.reduceFinMk, Fin.val_two, mR_uI, mK_uI, mN_uI, mI_uR, mK_uR, mN_uR, mR_uC, mK_uC, mN_uC, Option.some.injEq, Sum.inl.injEq, Sum.inr.injEq, decide_true, decide_false, Bool.or_false, Bool.false_or, Bool.or_true, Bool.true_or, Nat.reduceBEq, beq_self_eq_true, show tb 16 = tb_16 from rfl, tb_16, tb_16_0, tb_16_1, tb_16_2, tb_16_3, pfb, pfb_b, pfb_c, pfb_v, pfa_b, pfa_c, pfa_v, y0, y1, y2, y3, y4, y5, y6, y7, y8, m1, m3, o3]
        refine ⟨fun h => by omega, fun _ => ⟨by omega, by omega, ?_⟩⟩
        refine Ev_mono (e_readText X M3 (14 + 2 * t) (30 + 3 * t) (roomT t) (ordT T) (T t) hs3 m4 t1 (by rw [show 14 + 2 * t + 1 = 15 + 2 * t by omega]; exact t2) ⟨t3, by unfold roomT; split <;> omega⟩ m2 (by omega)) (fun r M4 hr _ _ => ?_)
        obtain ⟨rfl, z1, z2, z3, z4⟩ := hr
        simp only [f_kG, psh, Nat.reduceAdd]
        refine G_w (pfb_ok X) LK_16 (fun i => i == 14 || i == 40) 20 _ _ _ _ ?_
        simp only [f_0, f_s, f_iconst, f_bipush, f_sipush, f_ldc, f_ldc_w, f_ldc2_w, f_ldI, f_ldL, f_ldA, f_iload, f_iload_n, f_lload, f_lload_n, f_aload, f_aload_n, f_istore, f_istore_n, f_lstore, f_lstore_n, f_astore, f_astore_n, f_iinc, f_icI, f_iadd, f_isub, f_imul, f_idiv, f_irem, f_iand, f_ior, f_ixor, f_ishl, f_ishr, f_iushr, f_i2l, f_i2b, f_i2s, f_ladd, f_lmul, f_lcmp, f_dupI, f_dupR, f_dup2, f_pop, f_goto, f_if, f_icmp, f_tab, f_ts0, f_ts1, f_getI, f_getZ, f_getR, f_putI, f_putR, f_gets, f_iald, f_bald, f_aald, f_iast, f_bast, f_aast, f_alen, f_new, f_newa, f_anew, f_virt, f_stat0, f_stat1, f_spec0, f_spec1, f_spec9, f_copy, f_max, f_min, f_cV1, f_cV0, f_cS1, f_cS0, f_iret, f_lret, f_vret, f_kG, pf0, cIg, inR, lget, lset, lset2, clr, entL, cnd, psh, catS, tsw, List.take_succ_cons, List.take_zero, List.drop_succ_cons, List.drop_zero, List.reverse_cons, List.reverse_nil, List.nil_append, List.cons_append, List.length_cons, List.length_nil, List.replicate_succ, List.replicate_zero, Nat.reduceAdd, Nat.reduceSub, Nat.reduceLeDiff, Nat.reduceLT, Nat.reduceEqDiff, Nat.reduceMul, Nat.zero_add, Nat.add_zero, Nat.le_refl, Nat.zero_le, Int.reduceEq, Int.reduceToNat, Int.toNat_natCast, Int.reduceNeg, Int.reduceAdd, Int.reduceSub, Int.reduceMul, Int.reduceLT, Int.reduceLE, Int.reduceDiv, Int.reduceMod, Bool.false_eq_true, ↓reduceIte, true_and, and_true, implies_true, forall_const, true_or, or_true, or_false, false_or, not_true_eq_false, not_false_eq_true, false_implies, Prod.mk.injEq, Fin.val_zero, Fin.val_one, Fin.isValue, Fin.reduceFinMk, Fin.val_two, mR_uI, mK_uI, mN_uI, mI_uR, mK_uR, mN_uR, mR_uC, mK_uC, mN_uC, Option.some.injEq, Sum.inl.injEq, Sum.inr.injEq, decide_true, decide_false, Bool.or_false, Bool.false_or, Bool.or_true, Bool.true_or, Nat.reduceBEq, beq_self_eq_true, show tb 16 = tb_16 from rfl, tb_16, tb_16_0, tb_16_1, tb_16_2, tb_16_3, pfb, pfb_b, pfb_c, pfb_v, pfa_b, pfa_c, pfa_v]
        have hT4 : TX M4 T := by
          intro u hu9
          obtain ⟨a1, a2, a3, a4⟩ := hT3 u hu9
          refine ⟨?_, fun j b hb => (z1.2.2.2 _ _ (by unfold TR T3; omega)).trans (a2 j b hb), a3, a4⟩
          by_cases h7 : u = t
          · subst h7; exact z4.trans a1
          · exact (z1.2.2.2 _ _ (by unfold TR T3; omega)).trans a1
        refine ⟨by omega, ih (t + 1) M4 (by omega) (hS3.tr (z1.w (fun a h => by unfold TR T3 at h; unfold TV; omega))) hT4 ((z1.2.2.2 _ _ (by unfold TR T3; omega)).trans h28) (fun u hu9 => ?_)⟩
        by_cases h7 : u = t
        · subst h7
          refine ⟨z3.trans ?_, z2⟩
          unfold fltT
          rw [if_neg (by omega)]
        · obtain ⟨a1, a2⟩ := hu u (by omega)
          exact ⟨(z1.2.2.2 _ _ (by unfold TR T3; omega)).trans a1, PL_same a2 z1.2.2.2 (by unfold TR T3; omega) (by unfold TR T3; omega) (by unfold TR T3; omega)⟩
    exact loop 7 0 M2 rfl (Same.rf _ _) hT2 f28 (fun u hu => by omega)
  · refine Ev_of mcd_16 mok_16 (by decide) rfl (Nat.le_of_ble_eq_true rfl) ?_
    rw [show yl 16 = 3 from rfl]
    refine G_w (pfb_ok X) LK_16 (fun i => i == 40) 10 _ _ _ _ ?_
    simp only [f_0, f_s, f_iconst, f_bipush, f_sipush, f_ldc, f_ldc_w, f_ldc2_w, f_ldI, f_ldL, f_ldA, f_iload, f_iload_n, f_lload, f_lload_n, f_aload, f_aload_n, f_istore, f_istore_n, f_lstore, f_lstore_n, f_astore, f_astore_n, f_iinc, f_icI, f_iadd, f_isub, f_imul, f_idiv, f_irem, f_iand, f_ior, f_ixor, f_ishl, f_ishr, f_iushr, f_i2l, f_i2b, f_i2s, f_ladd, f_lmul, f_lcmp, f_dupI, f_dupR, f_dup2, f_pop, f_goto, f_if, f_icmp, f_tab, f_ts0, f_ts1, f_getI, f_getZ, f_getR, f_putI, f_putR, f_gets, f_iald, f_bald, f_aald, f_iast, f_bast, f_aast, f_alen, f_new, f_newa, f_anew, f_virt, f_stat0, f_stat1, f_spec0, f_spec1, f_spec9, f_copy, f_max, f_min, f_cV1, f_cV0, f_cS1, f_cS0, f_iret, f_lret, f_vret, f_kG, pf0, cIg, inR, lget, lset, lset2, clr, entL, cnd, psh, catS, tsw, List.take_succ_cons, List.take_zero, List.drop_succ_cons, List.drop_zero, List.reverse_cons, List.reverse_nil, List.nil_append, List.cons_append, List.length_cons, List.length_nil, List.replicate_succ, List.replicate_zero, Nat.reduceAdd, Nat.reduceSub, Nat.reduceLeDiff, Nat.reduceLT, Nat.reduceEqDiff, Nat.reduceMul, Nat.zero_add, Nat.add_zero, Nat.le_refl, Nat.zero_le, Int.reduceEq, Int.reduceToNat, Int.toNat_natCast, Int.reduceNeg, Int.reduceAdd, Int.reduceSub, Int.reduceMul, Int.reduceLT, Int.reduceLE, Int.reduceDiv, Int.reduceMod, Bool.false_eq_true, ↓reduceIte, true_and, and_true, implies_true, forall_const, true_or, or_true, or_false, false_or, not_true_eq_false, not_false_eq_true, false_implies, Prod.mk.injEq, Fin.val_zero, Fin.val_one, Fin.isValue, Fin.reduceFinMk, Fin.val_two, mR_uI, mK_uI, mN_uI, mI_uR, mK_uR, mN_uR, mR_uC, mK_uC, mN_uC, Option.some.injEq, Sum.inl.injEq, Sum.inr.injEq, decide_true, decide_false, Bool.or_false, Bool.false_or, Bool.or_true, Bool.true_or, Nat.reduceBEq, beq_self_eq_true, show tb 16 = tb_16 from rfl, tb_16, tb_16_0, tb_16_1, tb_16_2, tb_16_3, pfb, pfb_b, pfb_c, pfb_v, pfa_b, pfa_c, pfa_v, k0, hb]
    exact r_segB X M T n hn M none hC0 hSr rfl hb
