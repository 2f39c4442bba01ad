/-! the class's object is made -/
abbrev KX (M : Mem) : Option AV → Mem → Prop := fun r M' => r = none ∧ Laid M M' 0 521
set_option maxRecDepth 100000 in
set_option maxHeartbeats 4000000 in
theorem nx_tail (X : CX) (M M1 : Mem) (hz : mZ M = 1) (v1 : Option AV) (hC : Cn M1 59 (Gx M 59 R0 (V1 8) (V2 7) (V3 4))) (hS : mS M1 = mS M + 1499) : G X y_x_init (mZ M, mS M, 520, 12000) 88 [some (aR (some 0)), v1] [] M1 (KX M) := by
  have big : 900000 < BIG := Nat.le_of_ble_eq_true rfl
  have hz1 := hC.1
  refine G_w (pf0_ok X) LK_1 (fun i => false) 20 _ _ _ _ ?_
  simp only [f_0, f_s, f_iconst, f_bipush, f_sipush, f_ldc, f_ldc_w, f_ldc2_w, f_ldI, f_ldL, f_ldA, f_iload, f_iload_n, f_lload, f_lload_n, f_aload, f_aload_n, f_istore, f_istore_n, f_lstore, f_lstore_n, f_astore, f_astore_n, f_iinc, f_icI, f_iadd, f_isub, f_imul, f_idiv, f_irem, f_iand, f_ior, f_ixor, f_ishl, f_ishr, f_iushr, f_i2l, f_i2b, f_i2s, f_ladd, f_lmul, f_lcmp, f_dupI, f_dupR, f_dup2, f_pop, f_goto, f_if, f_icmp, f_tab, f_ts0, f_ts1, f_getI, f_getZ, f_getR, f_putI, f_putR, f_gets, f_iald, f_bald, f_aald, f_iast, f_bast, f_aast, f_alen, f_new, f_newa, f_anew, f_virt, f_stat0, f_stat1, f_spec0, f_spec1, f_spec9, f_copy, f_max, f_min, f_cV1, f_cV0, f_cS1, f_cS0, f_iret, f_lret, f_vret, f_kG, pf0, cIg, inR, lget, lset, lset2, clr, entL, cnd, psh, catS, tsw, List.take_succ_cons, List.take_zero, List.drop_succ_cons, List.drop_zero, List.reverse_cons, List.reverse_nil, List.nil_append, List.cons_append, List.length_cons, List.length_nil, List.replicate_succ, List.replicate_zero, Nat.reduceAdd, Nat.reduceSub, Nat.reduceLeDiff, Nat.reduceLT, Nat.reduceEqDiff, Nat.reduceMul, Nat.zero_add, Nat.add_zero, Nat.le_refl, Nat.zero_le, Int.reduceEq, Int.reduceToNat, Int.toNat_natCast, Int.reduceNeg, Int.reduceAdd, Int.reduceSub, Int.reduceMul, Int.reduceLT, Int.reduceLE, Int.reduceDiv, Int.reduceMod, Bool.false_eq_true, ↓reduceIte, true_and, and_true, implies_true, forall_const, true_or, or_true, or_false, false_or, not_true_eq_false, not_false_eq_true, false_implies, Prod.mk.injEq, Fin.val_zero, Fin.val_one, Fin.isValue, Fin.reduceFinMk, Fin.val_two, mR_uI, mK_uI, mN_uI, mI_uR, mK_uR, mN_uR, mR_uC, mK_uC, mN_uC, Option.some.injEq, Sum.inl.injEq, Sum.inr.injEq, decide_true, decide_false, Bool.or_false, Bool.false_or, Bool.or_true, Bool.true_or, Nat.reduceBEq, beq_self_eq_true, show tb 1 = tb_1 from rfl, tb_1, tb_1_0, tb_1_1, tb_1_2, tb_1_3, mZ_uN, mS_uN, hz1]
  (repeat' (first | with_reducible apply And.intro | with_reducible intro _)) <;> (try omega)
  refine ⟨(301, 6600), ⟨by simp only []; omega, by simp only []; omega⟩, Ev_mono (e_newR X (uN M1 4 2) 59 100 (Or.inl ⟨rfl, rfl⟩) (by rw [mZ_uN, hz1]) (by rw [cl_uN, if_pos hz1.symm])) (fun q M2 hr z2 s2 => ?_)⟩
  obtain ⟨rfl, hL2⟩ := hr
  simp only [mZ_uN, mS_uN, hz1, Nat.reduceAdd] at z2 s2
  have c2 := Gx.bl hC (by omega) (by omega) hL2 z2
  simp only [f_kG, psh, Nat.reduceAdd]
  refine G_w (pf0_ok X) LK_1 (fun i => false) 20 _ _ _ _ ?_
  simp only [f_0, f_s, f_iconst, f_bipush, f_sipush, f_ldc, f_ldc_w, f_ldc2_w, f_ldI, f_ldL, f_ldA, f_iload, f_iload_n, f_lload, f_lload_n, f_aload, f_aload_n, f_istore, f_istore_n, f_lstore, f_lstore_n, f_astore, f_astore_n, f_iinc, f_icI, f_iadd, f_isub, f_imul, f_idiv, f_irem, f_iand, f_ior, f_ixor, f_ishl, f_ishr, f_iushr, f_i2l, f_i2b, f_i2s, f_ladd, f_lmul, f_lcmp, f_dupI, f_dupR, f_dup2, f_pop, f_goto, f_if, f_icmp, f_tab, f_ts0, f_ts1, f_getI, f_getZ, f_getR, f_putI, f_putR, f_gets, f_iald, f_bald, f_aald, f_iast, f_bast, f_aast, f_alen, f_new, f_newa, f_anew, f_virt, f_stat0, f_stat1, f_spec0, f_spec1, f_spec9, f_copy, f_max, f_min, f_cV1, f_cV0, f_cS1, f_cS0, f_iret, f_lret, f_vret, f_kG, pf0, cIg, inR, lget, lset, lset2, clr, entL, cnd, psh, catS, tsw, List.take_succ_cons, List.take_zero, List.drop_succ_cons, List.drop_zero, List.reverse_cons, List.reverse_nil, List.nil_append, List.cons_append, List.length_cons, List.length_nil, List.replicate_succ, List.replicate_zero, Nat.reduceAdd, Nat.reduceSub, Nat.reduceLeDiff, Nat.reduceLT, Nat.reduceEqDiff, Nat.reduceMul, Nat.zero_add, Nat.add_zero, Nat.le_refl, Nat.zero_le, Int.reduceEq, Int.reduceToNat, Int.toNat_natCast, Int.reduceNeg, Int.reduceAdd, Int.reduceSub, Int.reduceMul, Int.reduceLT, Int.reduceLE, Int.reduceDiv, Int.reduceMod, Bool.false_eq_true, ↓reduceIte, true_and, and_true, implies_true, forall_const, true_or, or_true, or_false, false_or, not_true_eq_false, not_false_eq_true, false_implies, Prod.mk.injEq, Fin.val_zero, Fin.val_one, Fin.isValue, Fin.reduceFinMk, Fin.val_two, mR_uI, mK_uI, mN_uI, mI_uR, mK_uR, mN_uR, mR_uC, mK_uC, mN_uC, Option.some.injEq, Sum.inl.injEq, Sum.inr.injEq, decide_true, decide_false, Bool.or_false, Bool.false_or, Bool.or_true, Bool.true_or, Nat.reduceBEq, beq_self_eq_true, show tb 1 = tb_1 from rfl, tb_1, tb_1_0, tb_1_1, tb_1_2, tb_1_3, mZ_uN, mS_uN, z2]
  (repeat' (first | with_reducible apply And.intro | with_reducible intro _)) <;> (try omega)
  refine ⟨(79, 1771), ⟨by simp only []; omega, by simp only []; omega⟩, Ev_mono (e_newC X (uN M2 5 8) 361 (Or.inl rfl) (by rw [mZ_uN, z2]) (by rw [cl_uN, if_pos z2.symm])) (fun q M3 hr z3 s3 => ?_)⟩
  obtain ⟨rfl, hL3⟩ := hr
  simp only [mZ_uN, mS_uN, z2, Nat.reduceAdd] at z3 s3
  have c3 := Gx.bl c2 (by omega) (by omega) hL3 z3
  have k3 : mK M3 0 = 0 := by rw [c3.k]; rfl
  have c4 := Gx.r0 c3 5 (some 361)
  simp only [f_kG, psh, Nat.reduceAdd]
  refine G_w (pf0_ok X) LK_1 (fun i => false) 20 _ _ _ _ ?_
  simp only [f_0, f_s, f_iconst, f_bipush, f_sipush, f_ldc, f_ldc_w, f_ldc2_w, f_ldI, f_ldL, f_ldA, f_iload, f_iload_n, f_lload, f_lload_n, f_aload, f_aload_n, f_istore, f_istore_n, f_lstore, f_lstore_n, f_astore, f_astore_n, f_iinc, f_icI, f_iadd, f_isub, f_imul, f_idiv, f_irem, f_iand, f_ior, f_ixor, f_ishl, f_ishr, f_iushr, f_i2l, f_i2b, f_i2s, f_ladd, f_lmul, f_lcmp, f_dupI, f_dupR, f_dup2, f_pop, f_goto, f_if, f_icmp, f_tab, f_ts0, f_ts1, f_getI, f_getZ, f_getR, f_putI, f_putR, f_gets, f_iald, f_bald, f_aald, f_iast, f_bast, f_aast, f_alen, f_new, f_newa, f_anew, f_virt, f_stat0, f_stat1, f_spec0, f_spec1, f_spec9, f_copy, f_max, f_min, f_cV1, f_cV0, f_cS1, f_cS0, f_iret, f_lret, f_vret, f_kG, pf0, cIg, inR, lget, lset, lset2, clr, entL, cnd, psh, catS, tsw, List.take_succ_cons, List.take_zero, List.drop_succ_cons, List.drop_zero, List.reverse_cons, List.reverse_nil, List.nil_append, List.cons_append, List.length_cons, List.length_nil, List.replicate_succ, List.replicate_zero, Nat.reduceAdd, Nat.reduceSub, Nat.reduceLeDiff, Nat.reduceLT, Nat.reduceEqDiff, Nat.reduceMul, Nat.zero_add, Nat.add_zero, Nat.le_refl, Nat.zero_le, Int.reduceEq, Int.reduceToNat, Int.toNat_natCast, Int.reduceNeg, Int.reduceAdd, Int.reduceSub, Int.reduceMul, Int.reduceLT, Int.reduceLE, Int.reduceDiv, Int.reduceMod, Bool.false_eq_true, ↓reduceIte, true_and, and_true, implies_true, forall_const, true_or, or_true, or_false, false_or, not_true_eq_false, not_false_eq_true, false_implies, Prod.mk.injEq, Fin.val_zero, Fin.val_one, Fin.isValue, Fin.reduceFinMk, Fin.val_two, mR_uI, mK_uI, mN_uI, mI_uR, mK_uR, mN_uR, mR_uC, mK_uC, mN_uC, Option.some.injEq, Sum.inl.injEq, Sum.inr.injEq, decide_true, decide_false, Bool.or_false, Bool.false_or, Bool.or_true, Bool.true_or, Nat.reduceBEq, beq_self_eq_true, show tb 1 = tb_1 from rfl, tb_1, tb_1_0, tb_1_1, tb_1_2, tb_1_3, mZ_uN, mS_uN, mZ_uR, mS_uR, z3, k3]
  (repeat' (first | with_reducible apply And.intro | with_reducible intro _)) <;> (try omega)
  refine ⟨(79, 1771), ⟨by simp only []; omega, by simp only []; omega⟩, Ev_mono (e_newC X (uN (uR M3 0 5 (some 361)) 5 8) 441 (Or.inr rfl) (by rw [mZ_uN, mZ_uR, z3]) (by rw [cl_uN, if_pos (by rw [mZ_uR, z3])])) (fun q M5 hr z5 s5 => ?_)⟩
  obtain ⟨rfl, hL5⟩ := hr
  simp only [mZ_uN, mS_uN, mZ_uR, mS_uR, z3, Nat.reduceAdd] at z5 s5
  have c5 := Gx.bl c4 (by omega) (by omega) hL5 z5
  have k5 : mK M5 0 = 0 := by rw [c5.k]; rfl
  have c6 := (Gx.r0 c5 6 (some 441)).nS (mS M + 12000)
  have hL : Laid M (uS (uR M5 0 6 (some 441)) (mS M + 12000)) 0 521 := by
    refine ⟨fun a h1 h2 => ?_, fun a h => ?_⟩
    · rw [c6.e a, Gx]
      by_cases a0 : a = 0
      · rw [if_pos a0, a0, LC_0]
      · by_cases a1 : a = 1
        · rw [if_neg a0, if_pos a1, a1, LC_1]
        · by_cases a2 : a = 2
          · rw [if_neg a0, if_neg a1, if_pos a2, a2, LC_2]
          · by_cases a3 : a = 13
            · rw [if_neg a0, if_neg a1, if_neg a2, if_pos a3, a3, LC_13]
            · rw [if_neg a0, if_neg a1, if_neg a2, if_neg a3, if_pos h2]
    · rw [c6.e a, Gx, if_neg (by omega), if_neg (by omega), if_neg (by omega), if_neg (by omega), if_neg (by omega)]
  simp only [f_kG, psh, Nat.reduceAdd]
  refine G_w (pf0_ok X) LK_1 (fun i => false) 20 _ _ _ _ ?_
  simp only [f_0, f_s, f_iconst, f_bipush, f_sipush, f_ldc, f_ldc_w, f_ldc2_w, f_ldI, f_ldL, f_ldA, f_iload, f_iload_n, f_lload, f_lload_n, f_aload, f_aload_n, f_istore, f_istore_n, f_lstore, f_lstore_n, f_astore, f_astore_n, f_iinc, f_icI, f_iadd, f_isub, f_imul, f_idiv, f_irem, f_iand, f_ior, f_ixor, f_ishl, f_ishr, f_iushr, f_i2l, f_i2b, f_i2s, f_ladd, f_lmul, f_lcmp, f_dupI, f_dupR, f_dup2, f_pop, f_goto, f_if, f_icmp, f_tab, f_ts0, f_ts1, f_getI, f_getZ, f_getR, f_putI, f_putR, f_gets, f_iald, f_bald, f_aald, f_iast, f_bast, f_aast, f_alen, f_new, f_newa, f_anew, f_virt, f_stat0, f_stat1, f_spec0, f_spec1, f_spec9, f_copy, f_max, f_min, f_cV1, f_cV0, f_cS1, f_cS0, f_iret, f_lret, f_vret, f_kG, pf0, cIg, inR, lget, lset, lset2, clr, entL, cnd, psh, catS, tsw, List.take_succ_cons, List.take_zero, List.drop_succ_cons, List.drop_zero, List.reverse_cons, List.reverse_nil, List.nil_append, List.cons_append, List.length_cons, List.length_nil, List.replicate_succ, List.replicate_zero, Nat.reduceAdd, Nat.reduceSub, Nat.reduceLeDiff, Nat.reduceLT, Nat.reduceEqDiff, Nat.reduceMul, Nat.zero_add, Nat.add_zero, Nat.le_refl, Nat.zero_le, Int.reduceEq, Int.reduceToNat, Int.toNat_natCast, Int.reduceNeg, Int.reduceAdd, Int.reduceSub, Int.reduceMul, Int.reduceLT, Int.reduceLE, Int.reduceDiv, Int.reduceMod, Bool.false_eq_true, ↓reduceIte, true_and, and_true, implies_true, forall_const, true_or, or_true, or_false, false_or, not_true_eq_false, not_false_eq_true, false_implies, Prod.mk.injEq, Fin.val_zero, Fin.val_one, Fin.isValue, Fin.reduceFinMk, Fin.val_two, mR_uI, mK_uI, mN_uI, mI_uR, mK_uR, mN_uR, mR_uC, mK_uC, mN_uC, Option.some.injEq, Sum.inl.injEq, Sum.inr.injEq, decide_true, decide_false, Bool.or_false, Bool.false_or, Bool.or_true, Bool.true_or, Nat.reduceBEq, beq_self_eq_true, show tb 1 = tb_1 from rfl, tb_1, tb_1_0, tb_1_1, tb_1_2, tb_1_3, mZ_uN, mS_uN, mZ_uR, mS_uR, z5, k5]
  (repeat' (first | with_reducible apply And.intro | with_reducible intro _)) <;> (try omega)
  all_goals first | exact hL | rfl
set_option maxRecDepth 100000 in
set_option maxHeartbeats 4000000 in
theorem nx_sheets (X : CX) (M : Mem) (hz : mZ M = 1) : ∀ (d t : Nat) (M1 : Mem), t + d = 4 → Cn M1 (51 + 2 * t) (Gx M (51 + 2 * t) R0 (V1 8) (V2 7) (V3 t)) → mS M1 = mS M + 1247 + 63 * t → G X y_x_init (mZ M, mS M, 520, 12000) 76 [some (aR (some 0)), some (aI t)] [] M1 (KX M) := by
  have big : 900000 < BIG := Nat.le_of_ble_eq_true rfl
  intro d
  induction d with
  | zero =>
    intro t M1 ht hC hS
    have ht4 : t = 4 := by omega
    subst ht4
    have hge : (4 : Int) ≤ ((4 : Nat) : Int) := by omega
    have h9 := nx_tail X M M1 hz (some (aI ((4 : Nat) : Int))) hC (by omega)
    refine G_w (pf0_ok X) LK_1 (fun i => i == 88) 20 _ _ _ _ ?_
    simp only [f_0, f_s, f_iconst, f_bipush, f_sipush, f_ldc, f_ldc_w, f_ldc2_w, f_ldI, f_ldL, f_ldA, f_iload, f_iload_n, f_lload, f_lload_n, f_aload, f_aload_n, f_istore, f_istore_n, f_lstore, f_lstore_n, f_astore, f_astore_n, f_iinc, f_icI, f_iadd, f_isub, f_imul, f_idiv, f_irem, f_iand, f_ior, f_ixor, f_ishl, f_ishr, f_iushr, f_i2l, f_i2b, f_i2s, f_ladd, f_lmul, f_lcmp, f_dupI, f_dupR, f_dup2, f_pop, f_goto, f_if, f_icmp, f_tab, f_ts0, f_ts1, f_getI, f_getZ, f_getR, f_putI, f_putR, f_gets, f_iald, f_bald, f_aald, f_iast, f_bast, f_aast, f_alen, f_new, f_newa, f_anew, f_virt, f_stat0, f_stat1, f_spec0, f_spec1, f_spec9, f_copy, f_max, f_min, f_cV1, f_cV0, f_cS1, f_cS0, f_iret, f_lret, f_vret, f_kG, pf0, cIg, inR, lget, lset, lset2, clr, entL, cnd, psh, catS, tsw, List.take_succ_cons, List.take_zero, List.drop_succ_cons, List.drop_zero, List.reverse_cons, List.reverse_nil, List.nil_append, List.cons_append, List.length_cons, List.length_nil, List.replicate_succ, List.replicate_zero, Nat.reduceAdd, Nat.reduceSub, Nat.reduceLeDiff, Nat.reduceLT, Nat.reduceEqDiff, Nat.reduceMul, Nat.zero_add, Nat.add_zero, Nat.le_refl, Nat.zero_le, Int.reduceEq, Int.reduceToNat, Int.toNat_natCast, Int.reduceNeg, Int.reduceAdd, Int.reduceSub, Int.reduceMul, Int.reduceLT, Int.reduceLE, Int.reduceDiv, Int.reduceMod, Bool.false_eq_true, ↓reduceIte, true_and, and_true, implies_true, forall_const, true_or, or_true, or_false, false_or, not_true_eq_false, not_false_eq_true, false_implies, Prod.mk.injEq, Fin.val_zero, Fin.val_one, Fin.isValue, Fin.reduceFinMk, Fin.val_two, mR_uI, mK_uI, mN_uI, mI_uR, mK_uR, mN_uR, mR_uC, mK_uC, mN_uC, Option.some.injEq, Sum.inl.injEq, Sum.inr.injEq, decide_true, decide_false, Bool.or_false, Bool.false_or, Bool.or_true, Bool.true_or, Nat.reduceBEq, beq_self_eq_true, show tb 1 = tb_1 from rfl, tb_1, tb_1_0, tb_1_1, tb_1_2, tb_1_3, hge]
    first | exact h9 | exact ⟨fun _ => h9, fun h => absurd hge h⟩
  | succ d ih =>
    intro t M1 ht hC hS
    have hge : ¬ (4 : Int) ≤ (t : Int) := by omega
    have hz1 := hC.1
    have k0 : mK M1 0 = 0 := by rw [hC.k]; rfl
    have r0 : mR M1 0 13 = some 13 := by rw [hC.r]; rfl
    refine G_w (pf0_ok X) LK_1 (fun i => false) 20 _ _ _ _ ?_
    simp only [f_0, f_s, f_iconst, f_bipush, f_sipush, f_ldc, f_ldc_w, f_ldc2_w, f_ldI, f_ldL, f_ldA, f_iload, f_iload_n, f_lload, f_lload_n, f_aload, f_aload_n, f_istore, f_istore_n, f_lstore, f_lstore_n, f_astore, f_astore_n, f_iinc, f_icI, f_iadd, f_isub, f_imul, f_idiv, f_irem, f_iand, f_ior, f_ixor, f_ishl, f_ishr, f_iushr, f_i2l, f_i2b, f_i2s, f_ladd, f_lmul, f_lcmp, f_dupI, f_dupR, f_dup2, f_pop, f_goto, f_if, f_icmp, f_tab, f_ts0, f_ts1, f_getI, f_getZ, f_getR, f_putI, f_putR, f_gets, f_iald, f_bald, f_aald, f_iast, f_bast, f_aast, f_alen, f_new, f_newa, f_anew, f_virt, f_stat0, f_stat1, f_spec0, f_spec1, f_spec9, f_copy, f_max, f_min, f_cV1, f_cV0, f_cS1, f_cS0, f_iret, f_lret, f_vret, f_kG, pf0, cIg, inR, lget, lset, lset2, clr, entL, cnd, psh, catS, tsw, List.take_succ_cons, List.take_zero, List.drop_succ_cons, List.drop_zero, List.reverse_cons, List.reverse_nil, List.nil_append, List.cons_append, List.length_cons, List.length_nil, List.replicate_succ, List.replicate_zero, Nat.reduceAdd, Nat.reduceSub, Nat.reduceLeDiff, Nat.reduceLT, Nat.reduceEqDiff, Nat.reduceMul, Nat.zero_add, Nat.add_zero, Nat.le_refl, Nat.zero_le, Int.reduceEq, Int.reduceToNat, Int.toNat_natCast, Int.reduceNeg, Int.reduceAdd, Int.reduceSub, Int.reduceMul, Int.reduceLT, Int.reduceLE, Int.reduceDiv, Int.reduceMod, Bool.false_eq_true, ↓reduceIte, true_and, and_true, implies_true, forall_const, true_or, or_true, or_false, false_or, not_true_eq_false, not_false_eq_true, false_implies, Prod.mk.injEq, Fin.val_zero, Fin.val_one, Fin.isValue, Fin.reduceFinMk, Fin.val_two, mR_uI, mK_uI, mN_uI, mI_uR, mK_uR, mN_uR, mR_uC, mK_uC, mN_uC, Option.some.injEq, Sum.inl.injEq, Sum.inr.injEq, decide_true, decide_false, Bool.or_false, Bool.false_or, Bool.or_true, Bool.true_or, Nat.reduceBEq, beq_self_eq_true, show tb 1 = tb_1 from rfl, tb_1, tb_1_0, tb_1_1, tb_1_2, tb_1_3, mZ_uN, mS_uN, hge, hz1, k0, r0]
    (repeat' (first | with_reducible apply And.intro | with_reducible intro _)) <;> (try omega)
    refine ⟨(1, 60), ⟨by simp only []; omega, by simp only []; omega⟩, Ev_mono (e_newS X (uN M1 7 3) (51 + 2 * t) (by omega) (by rw [mZ_uN, hz1]) (sht_f t (by omega)) (by rw [cl_uN, if_pos hz1.symm])) (fun q M2 hr z2 s2 => ?_)⟩
    obtain ⟨rfl, hL2⟩ := hr
    simp only [mZ_uN, mS_uN, hz1] at z2 s2
    have c2 := Gx.bl hC (show 51 + 2 * t < 51 + 2 * t + 2 by omega) (by omega) hL2 z2
    have k1 : mK M2 13 = 37 := by rw [c2.k]; rfl
    have n1 : mN M2 13 = 4 := by rw [c2.l]; rfl
    have k2 : mK M2 (51 + 2 * t) = 7 := by
      rw [c2.k, Gx, if_neg (by omega), if_neg (by omega), if_neg (by omega), if_neg (by omega), if_pos (by omega)]
      exact (sht_f t (by omega)).1
    have c3 := Gx.r3 c2 t (some (51 + 2 * t))
    rw [show upC (V3 t) t (some (51 + 2 * t)) = V3 (t + 1) from upT, show 51 + 2 * t + 2 = 51 + 2 * (t + 1) by omega] at c3
    have h9 := ih (t + 1) _ (by omega) c3 (by rw [mS_uR]; omega)
    simp only [f_kG, psh, Nat.reduceAdd]
    refine G_w (pf0_ok X) LK_1 (fun i => i == 76) 20 _ _ _ _ ?_
    simp only [f_0, f_s, f_iconst, f_bipush, f_sipush, f_ldc, f_ldc_w, f_ldc2_w, f_ldI, f_ldL, f_ldA, f_iload, f_iload_n, f_lload, f_lload_n, f_aload, f_aload_n, f_istore, f_istore_n, f_lstore, f_lstore_n, f_astore, f_astore_n, f_iinc, f_icI, f_iadd, f_isub, f_imul, f_idiv, f_irem, f_iand, f_ior, f_ixor, f_ishl, f_ishr, f_iushr, f_i2l, f_i2b, f_i2s, f_ladd, f_lmul, f_lcmp, f_dupI, f_dupR, f_dup2, f_pop, f_goto, f_if, f_icmp, f_tab, f_ts0, f_ts1, f_getI, f_getZ, f_getR, f_putI, f_putR, f_gets, f_iald, f_bald, f_aald, f_iast, f_bast, f_aast, f_alen, f_new, f_newa, f_anew, f_virt, f_stat0, f_stat1, f_spec0, f_spec1, f_spec9, f_copy, f_max, f_min, f_cV1, f_cV0, f_cS1, f_cS0, f_iret, f_lret, f_vret, f_kG, pf0, cIg, inR, lget, lset, lset2, clr, entL, cnd, psh, catS, tsw, List.take_succ_cons, List.take_zero, List.drop_succ_cons, List.drop_zero, List.reverse_cons, List.reverse_nil, List.nil_append, List.cons_append, List.length_cons, List.length_nil, List.replicate_succ, List.replicate_zero, Nat.reduceAdd, Nat.reduceSub, Nat.reduceLeDiff, Nat.reduceLT, Nat.reduceEqDiff, Nat.reduceMul, Nat.zero_add, Nat.add_zero, Nat.le_refl, Nat.zero_le, Int.reduceEq, Int.reduceToNat, Int.toNat_natCast, Int.reduceNeg, Int.reduceAdd, Int.reduceSub, Int.reduceMul, Int.reduceLT, Int.reduceLE, Int.reduceDiv, Int.reduceMod, Bool.false_eq_true, ↓reduceIte, true_and, and_true, implies_true, forall_const, true_or, or_true, or_false, false_or, not_true_eq_false, not_false_eq_true, false_implies, Prod.mk.injEq, Fin.val_zero, Fin.val_one, Fin.isValue, Fin.reduceFinMk, Fin.val_two, mR_uI, mK_uI, mN_uI, mI_uR, mK_uR, mN_uR, mR_uC, mK_uC, mN_uC, Option.some.injEq, Sum.inl.injEq, Sum.inr.injEq, decide_true, decide_false, Bool.or_false, Bool.false_or, Bool.or_true, Bool.true_or, Nat.reduceBEq, beq_self_eq_true, show tb 1 = tb_1 from rfl, tb_1, tb_1_0, tb_1_1, tb_1_2, tb_1_3, k1, n1, k2]
    (repeat' (first | with_reducible apply And.intro | with_reducible intro _)) <;> (try omega)
    all_goals exact h9
set_option maxRecDepth 100000 in
set_option maxHeartbeats 4000000 in
theorem nx_values (X : CX) (M : Mem) (hz : mZ M = 1) : ∀ (d t : Nat) (M1 : Mem), t + d = 7 → Cn M1 (30 + 3 * t) (Gx M (30 + 3 * t) R0 (V1 8) (V2 t) (arr 37 4)) → mS M1 = mS M + 792 + 65 * t → G X y_x_init (mZ M, mS M, 520, 12000) 60 [some (aR (some 0)), some (aI t)] [] M1 (KX M) := by
  have big : 900000 < BIG := Nat.le_of_ble_eq_true rfl
  intro d
  induction d with
  | zero =>
    intro t M1 ht hC hS
    have ht4 : t = 7 := by omega
    subst ht4
    have hge : (7 : Int) ≤ ((7 : Nat) : Int) := by omega
    have k0 : mK M1 0 = 0 := by rw [hC.k]; rfl
    have r0 : mR M1 0 1 = some 2 := by rw [hC.r]; rfl
    have k1 : mK M1 2 = 32 := by rw [hC.k]; rfl
    have n1 : mN M1 2 = 7 := by rw [hC.l]; rfl
    rw [V0 (k0 := 37) (n := 4) (b := 51) (s := 2)] at hC
    have h9 := nx_sheets X M hz 4 0 M1 rfl hC (by omega)
    refine G_w (pf0_ok X) LK_1 (fun i => i == 76) 20 _ _ _ _ ?_
    simp only [f_0, f_s, f_iconst, f_bipush, f_sipush, f_ldc, f_ldc_w, f_ldc2_w, f_ldI, f_ldL, f_ldA, f_iload, f_iload_n, f_lload, f_lload_n, f_aload, f_aload_n, f_istore, f_istore_n, f_lstore, f_lstore_n, f_astore, f_astore_n, f_iinc, f_icI, f_iadd, f_isub, f_imul, f_idiv, f_irem, f_iand, f_ior, f_ixor, f_ishl, f_ishr, f_iushr, f_i2l, f_i2b, f_i2s, f_ladd, f_lmul, f_lcmp, f_dupI, f_dupR, f_dup2, f_pop, f_goto, f_if, f_icmp, f_tab, f_ts0, f_ts1, f_getI, f_getZ, f_getR, f_putI, f_putR, f_gets, f_iald, f_bald, f_aald, f_iast, f_bast, f_aast, f_alen, f_new, f_newa, f_anew, f_virt, f_stat0, f_stat1, f_spec0, f_spec1, f_spec9, f_copy, f_max, f_min, f_cV1, f_cV0, f_cS1, f_cS0, f_iret, f_lret, f_vret, f_kG, pf0, cIg, inR, lget, lset, lset2, clr, entL, cnd, psh, catS, tsw, List.take_succ_cons, List.take_zero, List.drop_succ_cons, List.drop_zero, List.reverse_cons, List.reverse_nil, List.nil_append, List.cons_append, List.length_cons, List.length_nil, List.replicate_succ, List.replicate_zero, Nat.reduceAdd, Nat.reduceSub, Nat.reduceLeDiff, Nat.reduceLT, Nat.reduceEqDiff, Nat.reduceMul, Nat.zero_add, Nat.add_zero, Nat.le_refl, Nat.zero_le, Int.reduceEq, Int.reduceToNat, Int.toNat_natCast, Int.reduceNeg, Int.reduceAdd, Int.reduceSub, Int.reduceMul, Int.reduceLT, Int.reduceLE, Int.reduceDiv, Int.reduceMod, Bool.false_eq_true, ↓reduceIte, true_and, and_true, implies_true, forall_const, true_or, or_true, or_false, false_or, not_true_eq_false, not_false_eq_true, false_implies, Prod.mk.injEq, Fin.val_zero, Fin.val_one, Fin.isValue, Fin.reduceFinMk, Fin.val_two, mR_uI, mK_uI, mN_uI, mI_uR, mK_uR, mN_uR, mR_uC, mK_uC, mN_uC, Option.some.injEq, Sum.inl.injEq, Sum.inr.injEq, decide_true, decide_false, Bool.or_false, Bool.false_or, Bool.or_true, Bool.true_or, Nat.reduceBEq, beq_self_eq_true, show tb 1 = tb_1 from rfl, tb_1, tb_1_0, tb_1_1, tb_1_2, tb_1_3, k0, r0, k1, n1]
    first | exact h9 | exact ⟨fun _ => h9, fun h => absurd hge h⟩
  | succ d ih =>
    intro t M1 ht hC hS
    have hge : ¬ (7 : Int) ≤ (t : Int) := by omega
    have hz1 := hC.1
    have k0 : mK M1 0 = 0 := by rw [hC.k]; rfl
    have r0 : mR M1 0 1 = some 2 := by rw [hC.r]; rfl
    have k1 : mK M1 2 = 32 := by rw [hC.k]; rfl
    have n1 : mN M1 2 = 7 := by rw [hC.l]; rfl
    have e7 : ((7 : Nat) : Int) = 7 := rfl
    refine G_w (pf0_ok X) LK_1 (fun i => false) 20 _ _ _ _ ?_
    simp only [f_0, f_s, f_iconst, f_bipush, f_sipush, f_ldc, f_ldc_w, f_ldc2_w, f_ldI, f_ldL, f_ldA, f_iload, f_iload_n, f_lload, f_lload_n, f_aload, f_aload_n, f_istore, f_istore_n, f_lstore, f_lstore_n, f_astore, f_astore_n, f_iinc, f_icI, f_iadd, f_isub, f_imul, f_idiv, f_irem, f_iand, f_ior, f_ixor, f_ishl, f_ishr, f_iushr, f_i2l, f_i2b, f_i2s, f_ladd, f_lmul, f_lcmp, f_dupI, f_dupR, f_dup2, f_pop, f_goto, f_if, f_icmp, f_tab, f_ts0, f_ts1, f_getI, f_getZ, f_getR, f_putI, f_putR, f_gets, f_iald, f_bald, f_aald, f_iast, f_bast, f_aast, f_alen, f_new, f_newa, f_anew, f_virt, f_stat0, f_stat1, f_spec0, f_spec1, f_spec9, f_copy, f_max, f_min, f_cV1, f_cV0, f_cS1, f_cS0, f_iret, f_lret, f_vret, f_kG, pf0, cIg, inR, lget, lset, lset2, clr, entL, cnd, psh, catS, tsw, List.take_succ_cons, List.take_zero, List.drop_succ_cons, List.drop_zero, List.reverse_cons, List.reverse_nil, List.nil_append, List.cons_append, List.length_cons, List.length_nil, List.replicate_succ, List.replicate_zero, Nat.reduceAdd, Nat.reduceSub, Nat.reduceLeDiff, Nat.reduceLT, Nat.reduceEqDiff, Nat.reduceMul, Nat.zero_add, Nat.add_zero, Nat.le_refl, Nat.zero_le, Int.reduceEq, Int.reduceToNat, Int.toNat_natCast, Int.reduceNeg, Int.reduceAdd, Int.reduceSub, Int.reduceMul, Int.reduceLT, Int.reduceLE, Int.reduceDiv, Int.reduceMod, Bool.false_eq_true, ↓reduceIte, true_and, and_true, implies_true, forall_const, true_or, or_true, or_false, false_or, not_true_eq_false, not_false_eq_true, false_implies, Prod.mk.injEq, Fin.val_zero, Fin.val_one, Fin.isValue, Fin.reduceFinMk, Fin.val_two, mR_uI, mK_uI, mN_uI, mI_uR, mK_uR, mN_uR, mR_uC, mK_uC, mN_uC, Option.some.injEq, Sum.inl.injEq, Sum.inr.injEq, decide_true, decide_false, Bool.or_false, Bool.false_or, Bool.or_true, Bool.true_or, Nat.reduceBEq, beq_self_eq_true, show tb 1 = tb_1 from rfl, tb_1, tb_1_0, tb_1_1, tb_1_2, tb_1_3, mZ_uN, mS_uN, hz1, k0, r0, k1, n1, e7, hge]
    (repeat' (first | with_reducible apply And.intro | with_reducible intro _)) <;> (try omega)
    refine ⟨(2, 60), ⟨by simp only []; omega, by simp only []; omega⟩, Ev_mono (e_newP X (uN M1 2 5) (30 + 3 * t) (by omega) (by rw [mZ_uN, hz1]) (val_f t (by omega)) (by rw [cl_uN, if_pos hz1.symm])) (fun q M2 hr z2 s2 => ?_)⟩
    obtain ⟨rfl, hL2⟩ := hr
    simp only [mZ_uN, mS_uN, hz1] at z2 s2
    have c2 := Gx.bl hC (show 30 + 3 * t < 30 + 3 * t + 3 by omega) (by omega) hL2 z2
    have k2 : mK M2 2 = 32 := by rw [c2.k]; rfl
    have n2 : mN M2 2 = 7 := by rw [c2.l]; rfl
    have k3 : mK M2 (30 + 3 * t) = 2 := by
      rw [c2.k, Gx, if_neg (by omega), if_neg (by omega), if_neg (by omega), if_neg (by omega), if_pos (by omega)]
      exact val_f t (by omega)
    have c3 := Gx.r2 c2 t (some (30 + 3 * t))
    rw [show upC (V2 t) t (some (30 + 3 * t)) = V2 (t + 1) from upT, show 30 + 3 * t + 3 = 30 + 3 * (t + 1) by omega] at c3
    have h9 := ih (t + 1) _ (by omega) c3 (by rw [mS_uR]; omega)
    simp only [f_kG, psh, Nat.reduceAdd]
    refine G_w (pf0_ok X) LK_1 (fun i => i == 60) 20 _ _ _ _ ?_
    simp only [f_0, f_s, f_iconst, f_bipush, f_sipush, f_ldc, f_ldc_w, f_ldc2_w, f_ldI, f_ldL, f_ldA, f_iload, f_iload_n, f_lload, f_lload_n, f_aload, f_aload_n, f_istore, f_istore_n, f_lstore, f_lstore_n, f_astore, f_astore_n, f_iinc, f_icI, f_iadd, f_isub, f_imul, f_idiv, f_irem, f_iand, f_ior, f_ixor, f_ishl, f_ishr, f_iushr, f_i2l, f_i2b, f_i2s, f_ladd, f_lmul, f_lcmp, f_dupI, f_dupR, f_dup2, f_pop, f_goto, f_if, f_icmp, f_tab, f_ts0, f_ts1, f_getI, f_getZ, f_getR, f_putI, f_putR, f_gets, f_iald, f_bald, f_aald, f_iast, f_bast, f_aast, f_alen, f_new, f_newa, f_anew, f_virt, f_stat0, f_stat1, f_spec0, f_spec1, f_spec9, f_copy, f_max, f_min, f_cV1, f_cV0, f_cS1, f_cS0, f_iret, f_lret, f_vret, f_kG, pf0, cIg, inR, lget, lset, lset2, clr, entL, cnd, psh, catS, tsw, List.take_succ_cons, List.take_zero, List.drop_succ_cons, List.drop_zero, List.reverse_cons, List.reverse_nil, List.nil_append, List.cons_append, List.length_cons, List.length_nil, List.replicate_succ, List.replicate_zero, Nat.reduceAdd, Nat.reduceSub, Nat.reduceLeDiff, Nat.reduceLT, Nat.reduceEqDiff, Nat.reduceMul, Nat.zero_add, Nat.add_zero, Nat.le_refl, Nat.zero_le, Int.reduceEq, Int.reduceToNat, Int.toNat_natCast, Int.reduceNeg, Int.reduceAdd, Int.reduceSub, Int.reduceMul, Int.reduceLT, Int.reduceLE, Int.reduceDiv, Int.reduceMod, Bool.false_eq_true, ↓reduceIte, true_and, and_true, implies_true, forall_const, true_or, or_true, or_false, false_or, not_true_eq_false, not_false_eq_true, false_implies, Prod.mk.injEq, Fin.val_zero, Fin.val_one, Fin.isValue, Fin.reduceFinMk, Fin.val_two, mR_uI, mK_uI, mN_uI, mI_uR, mK_uR, mN_uR, mR_uC, mK_uC, mN_uC, Option.some.injEq, Sum.inl.injEq, Sum.inr.injEq, decide_true, decide_false, Bool.or_false, Bool.false_or, Bool.or_true, Bool.true_or, Nat.reduceBEq, beq_self_eq_true, show tb 1 = tb_1 from rfl, tb_1, tb_1_0, tb_1_1, tb_1_2, tb_1_3, k2, n2, k3]
    (repeat' (first | with_reducible apply And.intro | with_reducible intro _)) <;> (try omega)
    all_goals exact h9
set_option maxRecDepth 100000 in
set_option maxHeartbeats 4000000 in
theorem nx_texts (X : CX) (M : Mem) (hz : mZ M = 1) : ∀ (d t : Nat) (M1 : Mem), t + d = 8 → Cn M1 (14 + 2 * t) (Gx M (14 + 2 * t) R0 (V1 t) (arr 32 7) (arr 37 4)) → mS M1 = mS M + 528 + 33 * t → G X y_x_init (mZ M, mS M, 520, 12000) 40 [some (aR (some 0)), some (aI t)] [] M1 (KX M) := by
  have big : 900000 < BIG := Nat.le_of_ble_eq_true rfl
  intro d
  induction d with
  | zero =>
    intro t M1 ht hC hS
    have ht4 : t = 8 := by omega
    subst ht4
    have hge : (8 : Int) ≤ ((8 : Nat) : Int) := by omega
    rw [V0 (k0 := 32) (n := 7) (b := 30) (s := 3)] at hC
    have h9 := nx_values X M hz 7 0 M1 rfl hC (by omega)
    refine G_w (pf0_ok X) LK_1 (fun i => i == 60) 20 _ _ _ _ ?_
    simp only [f_0, f_s, f_iconst, f_bipush, f_sipush, f_ldc, f_ldc_w, f_ldc2_w, f_ldI, f_ldL, f_ldA, f_iload, f_iload_n, f_lload, f_lload_n, f_aload, f_aload_n, f_istore, f_istore_n, f_lstore, f_lstore_n, f_astore, f_astore_n, f_iinc, f_icI, f_iadd, f_isub, f_imul, f_idiv, f_irem, f_iand, f_ior, f_ixor, f_ishl, f_ishr, f_iushr, f_i2l, f_i2b, f_i2s, f_ladd, f_lmul, f_lcmp, f_dupI, f_dupR, f_dup2, f_pop, f_goto, f_if, f_icmp, f_tab, f_ts0, f_ts1, f_getI, f_getZ, f_getR, f_putI, f_putR, f_gets, f_iald, f_bald, f_aald, f_iast, f_bast, f_aast, f_alen, f_new, f_newa, f_anew, f_virt, f_stat0, f_stat1, f_spec0, f_spec1, f_spec9, f_copy, f_max, f_min, f_cV1, f_cV0, f_cS1, f_cS0, f_iret, f_lret, f_vret, f_kG, pf0, cIg, inR, lget, lset, lset2, clr, entL, cnd, psh, catS, tsw, List.take_succ_cons, List.take_zero, List.drop_succ_cons, List.drop_zero, List.reverse_cons, List.reverse_nil, List.nil_append, List.cons_append, List.length_cons, List.length_nil, List.replicate_succ, List.replicate_zero, Nat.reduceAdd, Nat.reduceSub, Nat.reduceLeDiff, Nat.reduceLT, Nat.reduceEqDiff, Nat.reduceMul, Nat.zero_add, Nat.add_zero, Nat.le_refl, Nat.zero_le, Int.reduceEq, Int.reduceToNat, Int.toNat_natCast, Int.reduceNeg, Int.reduceAdd, Int.reduceSub, Int.reduceMul, Int.reduceLT, Int.reduceLE, Int.reduceDiv, Int.reduceMod, Bool.false_eq_true, ↓reduceIte, true_and, and_true, implies_true, forall_const, true_or, or_true, or_false, false_or, not_true_eq_false, not_false_eq_true, false_implies, Prod.mk.injEq, Fin.val_zero, Fin.val_one, Fin.isValue, Fin.reduceFinMk, Fin.val_two, mR_uI, mK_uI, mN_uI, mI_uR, mK_uR, mN_uR, mR_uC, mK_uC, mN_uC, Option.some.injEq, Sum.inl.injEq, Sum.inr.injEq, decide_true, decide_false, Bool.or_false, Bool.false_or, Bool.or_true, Bool.true_or, Nat.reduceBEq, beq_self_eq_true, show tb 1 = tb_1 from rfl, tb_1, tb_1_0, tb_1_1, tb_1_2, tb_1_3, hge]
    first | exact h9 | exact ⟨fun _ => h9, fun h => absurd hge h⟩
  | succ d ih =>
    intro t M1 ht hC hS
    have hge : ¬ (8 : Int) ≤ (t : Int) := by omega
    have hz1 := hC.1
    have k0 : mK M1 0 = 0 := by rw [hC.k]; rfl
    have r0 : mR M1 0 0 = some 1 := by rw [hC.r]; rfl
    obtain ⟨g1, g2, g3, g4⟩ := txt_f t (by omega)
    have fin : ∀ (most : Nat), most ≤ 30 → SN0 (14 + 2 * t + 1) = most → Ev X y_Text_init (1, 30) [aR (some (14 + 2 * t)), aI most] (uN M1 1 3) (kG X y_x_init (mZ M, mS M, 520, 12000) (KX M) 54 [some (aR (some 0)), some (aI t)] [aR (some (14 + 2 * t)), aI t, aR (some 1)]) := by
      intro most hm hs0
      refine Ev_mono (e_newT X (uN M1 1 3) (14 + 2 * t) most (by omega) hm (by rw [mZ_uN, hz1]) ⟨g1, g2, g3, hs0⟩ (by rw [cl_uN, if_pos hz1.symm])) (fun q M2 hr z2 s2 => ?_)
      obtain ⟨rfl, hL2⟩ := hr
      simp only [mZ_uN, mS_uN, hz1] at z2 s2
      have c2 := Gx.bl hC (show 14 + 2 * t < 14 + 2 * t + 2 by omega) (by omega) hL2 z2
      have k1 : mK M2 1 = 31 := by rw [c2.k]; rfl
      have n1 : mN M2 1 = 8 := by rw [c2.l]; rfl
      have k2 : mK M2 (14 + 2 * t) = 1 := by
        rw [c2.k, Gx, if_neg (by omega), if_neg (by omega), if_neg (by omega), if_neg (by omega), if_pos (by omega)]
        exact g1
      have c3 := Gx.r1 c2 t (some (14 + 2 * t))
      rw [show upC (V1 t) t (some (14 + 2 * t)) = V1 (t + 1) from upT, show 14 + 2 * t + 2 = 14 + 2 * (t + 1) by omega] at c3
      have h9 := ih (t + 1) _ (by omega) c3 (by rw [mS_uR]; omega)
      simp only [f_kG, psh, Nat.reduceAdd]
      refine G_w (pf0_ok X) LK_1 (fun i => i == 40) 20 _ _ _ _ ?_
      simp only [f_0, f_s, f_iconst, f_bipush, f_sipush, f_ldc, f_ldc_w, f_ldc2_w, f_ldI, f_ldL, f_ldA, f_iload, f_iload_n, f_lload, f_lload_n, f_aload, f_aload_n, f_istore, f_istore_n, f_lstore, f_lstore_n, f_astore, f_astore_n, f_iinc, f_icI, f_iadd, f_isub, f_imul, f_idiv, f_irem, f_iand, f_ior, f_ixor, f_ishl, f_ishr, f_iushr, f_i2l, f_i2b, f_i2s, f_ladd, f_lmul, f_lcmp, f_dupI, f_dupR, f_dup2, f_pop, f_goto, f_if, f_icmp, f_tab, f_ts0, f_ts1, f_getI, f_getZ, f_getR, f_putI, f_putR, f_gets, f_iald, f_bald, f_aald, f_iast, f_bast, f_aast, f_alen, f_new, f_newa, f_anew, f_virt, f_stat0, f_stat1, f_spec0, f_spec1, f_spec9, f_copy, f_max, f_min, f_cV1, f_cV0, f_cS1, f_cS0, f_iret, f_lret, f_vret, f_kG, pf0, cIg, inR, lget, lset, lset2, clr, entL, cnd, psh, catS, tsw, List.take_succ_cons, List.take_zero, List.drop_succ_cons, List.drop_zero, List.reverse_cons, List.reverse_nil, List.nil_append, List.cons_append, List.length_cons, List.length_nil, List.replicate_succ, List.replicate_zero, Nat.reduceAdd, Nat.reduceSub, Nat.reduceLeDiff, Nat.reduceLT, Nat.reduceEqDiff, Nat.reduceMul, Nat.zero_add, Nat.add_zero, Nat.le_refl, Nat.zero_le, Int.reduceEq, Int.reduceToNat, Int.toNat_natCast, Int.reduceNeg, Int.reduceAdd, Int.reduceSub, Int.reduceMul, Int.reduceLT, Int.reduceLE, Int.reduceDiv, Int.reduceMod, Bool.false_eq_true, ↓reduceIte, true_and, and_true, implies_true, forall_const, true_or, or_true, or_false, false_or, not_true_eq_false, not_false_eq_true, false_implies, Prod.mk.injEq, Fin.val_zero, Fin.val_one, Fin.isValue, Fin.reduceFinMk, Fin.val_two, mR_uI, mK_uI, mN_uI, mI_uR, mK_uR, mN_uR, mR_uC, mK_uC, mN_uC, Option.some.injEq, Sum.inl.injEq, Sum.inr.injEq, decide_true, decide_false, Bool.or_false, Bool.false_or, Bool.or_true, Bool.true_or, Nat.reduceBEq, beq_self_eq_true, show tb 1 = tb_1 from rfl, tb_1, tb_1_0, tb_1_1, tb_1_2, tb_1_3, k1, n1, k2]
      (repeat' (first | with_reducible apply And.intro | with_reducible intro _)) <;> (try omega)
      all_goals exact h9
    by_cases h7 : t = 7
    · have i7 : (t : Int) = 7 := by omega
      have h9 := fin 3 (by omega) (by rw [g4, if_pos h7])
      refine G_w (pf0_ok X) LK_1 (fun i => false) 20 _ _ _ _ ?_
      simp only [f_0, f_s, f_iconst, f_bipush, f_sipush, f_ldc, f_ldc_w, f_ldc2_w, f_ldI, f_ldL, f_ldA, f_iload, f_iload_n, f_lload, f_lload_n, f_aload, f_aload_n, f_istore, f_istore_n, f_lstore, f_lstore_n, f_astore, f_astore_n, f_iinc, f_icI, f_iadd, f_isub, f_imul, f_idiv, f_irem, f_iand, f_ior, f_ixor, f_ishl, f_ishr, f_iushr, f_i2l, f_i2b, f_i2s, f_ladd, f_lmul, f_lcmp, f_dupI, f_dupR, f_dup2, f_pop, f_goto, f_if, f_icmp, f_tab, f_ts0, f_ts1, f_getI, f_getZ, f_getR, f_putI, f_putR, f_gets, f_iald, f_bald, f_aald, f_iast, f_bast, f_aast, f_alen, f_new, f_newa, f_anew, f_virt, f_stat0, f_stat1, f_spec0, f_spec1, f_spec9, f_copy, f_max, f_min, f_cV1, f_cV0, f_cS1, f_cS0, f_iret, f_lret, f_vret, f_kG, pf0, cIg, inR, lget, lset, lset2, clr, entL, cnd, psh, catS, tsw, List.take_succ_cons, List.take_zero, List.drop_succ_cons, List.drop_zero, List.reverse_cons, List.reverse_nil, List.nil_append, List.cons_append, List.length_cons, List.length_nil, List.replicate_succ, List.replicate_zero, Nat.reduceAdd, Nat.reduceSub, Nat.reduceLeDiff, Nat.reduceLT, Nat.reduceEqDiff, Nat.reduceMul, Nat.zero_add, Nat.add_zero, Nat.le_refl, Nat.zero_le, Int.reduceEq, Int.reduceToNat, Int.toNat_natCast, Int.reduceNeg, Int.reduceAdd, Int.reduceSub, Int.reduceMul, Int.reduceLT, Int.reduceLE, Int.reduceDiv, Int.reduceMod, Bool.false_eq_true, ↓reduceIte, true_and, and_true, implies_true, forall_const, true_or, or_true, or_false, false_or, not_true_eq_false, not_false_eq_true, false_implies, Prod.mk.injEq, Fin.val_zero, Fin.val_one, Fin.isValue, Fin.reduceFinMk, Fin.val_two, mR_uI, mK_uI, mN_uI, mI_uR, mK_uR, mN_uR, mR_uC, mK_uC, mN_uC, Option.some.injEq, Sum.inl.injEq, Sum.inr.injEq, decide_true, decide_false, Bool.or_false, Bool.false_or, Bool.or_true, Bool.true_or, Nat.reduceBEq, beq_self_eq_true, show tb 1 = tb_1 from rfl, tb_1, tb_1_0, tb_1_1, tb_1_2, tb_1_3, mZ_uN, mS_uN, hge, hz1, k0, r0, i7]
      (repeat' (first | with_reducible apply And.intro | with_reducible intro _)) <;> (try omega)
      refine ⟨(1, 30), ⟨by simp only []; omega, by simp only []; omega⟩, ?_⟩
      rw [i7] at h9
      exact h9
    · have i7 : ¬ (t : Int) = 7 := by omega
      have h9 := fin 30 (by omega) (by rw [g4, if_neg h7])
      refine G_w (pf0_ok X) LK_1 (fun i => false) 20 _ _ _ _ ?_
      simp only [f_0, f_s, f_iconst, f_bipush, f_sipush, f_ldc, f_ldc_w, f_ldc2_w, f_ldI, f_ldL, f_ldA, f_iload, f_iload_n, f_lload, f_lload_n, f_aload, f_aload_n, f_istore, f_istore_n, f_lstore, f_lstore_n, f_astore, f_astore_n, f_iinc, f_icI, f_iadd, f_isub, f_imul, f_idiv, f_irem, f_iand, f_ior, f_ixor, f_ishl, f_ishr, f_iushr, f_i2l, f_i2b, f_i2s, f_ladd, f_lmul, f_lcmp, f_dupI, f_dupR, f_dup2, f_pop, f_goto, f_if, f_icmp, f_tab, f_ts0, f_ts1, f_getI, f_getZ, f_getR, f_putI, f_putR, f_gets, f_iald, f_bald, f_aald, f_iast, f_bast, f_aast, f_alen, f_new, f_newa, f_anew, f_virt, f_stat0, f_stat1, f_spec0, f_spec1, f_spec9, f_copy, f_max, f_min, f_cV1, f_cV0, f_cS1, f_cS0, f_iret, f_lret, f_vret, f_kG, pf0, cIg, inR, lget, lset, lset2, clr, entL, cnd, psh, catS, tsw, List.take_succ_cons, List.take_zero, List.drop_succ_cons, List.drop_zero, List.reverse_cons, List.reverse_nil, List.nil_append, List.cons_append, List.length_cons, List.length_nil, List.replicate_succ, List.replicate_zero, Nat.reduceAdd, Nat.reduceSub, Nat.reduceLeDiff, Nat.reduceLT, Nat.reduceEqDiff, Nat.reduceMul, Nat.zero_add, Nat.add_zero, Nat.le_refl, Nat.zero_le, Int.reduceEq, Int.reduceToNat, Int.toNat_natCast, Int.reduceNeg, Int.reduceAdd, Int.reduceSub, Int.reduceMul, Int.reduceLT, Int.reduceLE, Int.reduceDiv, Int.reduceMod, Bool.false_eq_true, ↓reduceIte, true_and, and_true, implies_true, forall_const, true_or, or_true, or_false, false_or, not_true_eq_false, not_false_eq_true, false_implies, Prod.mk.injEq, Fin.val_zero, Fin.val_one, Fin.isValue, Fin.reduceFinMk, Fin.val_two, mR_uI, mK_uI, mN_uI, mI_uR, mK_uR, mN_uR, mR_uC, mK_uC, mN_uC, Option.some.injEq, Sum.inl.injEq, Sum.inr.injEq, decide_true, decide_false, Bool.or_false, Bool.false_or, Bool.or_true, Bool.true_or, Nat.reduceBEq, beq_self_eq_true, show tb 1 = tb_1 from rfl, tb_1, tb_1_0, tb_1_1, tb_1_2, tb_1_3, mZ_uN, mS_uN, hge, hz1, k0, r0, i7]
      (repeat' (first | with_reducible apply And.intro | with_reducible intro _)) <;> (try omega)
      refine ⟨(1, 30), ⟨by simp only []; omega, by simp only []; omega⟩, ?_⟩
      exact h9
set_option maxRecDepth 100000 in
set_option maxHeartbeats 4000000 in
theorem e_newx (X : CX) (M : Mem) (hz : mZ M = 1) (hc : cl M 0 = arr 0 15) : Ev X y_x_init (520, 12000) [aR (some 0)] M (KX M) := by
  have big : 900000 < BIG := Nat.le_of_ble_eq_true rfl
  have k0 : mK M 0 = 0 := congrArg (fun c : Cel => c.1) hc
  have s0 : Cn M 1 (Gx M 1 (arr 0 15) (cl M 1) (cl M 2) (cl M 13)) := (Cn.st hz).cv (fun a => by
    rw [Gx]
    by_cases a0 : a = 0
    · rw [if_pos a0, a0, hc]
    · by_cases a1 : a = 1
      · rw [if_neg a0, if_pos a1, a1]
      · by_cases a2 : a = 2
        · rw [if_neg a0, if_neg a1, if_pos a2, a2]
        · by_cases a3 : a = 13
          · rw [if_neg a0, if_neg a1, if_neg a2, if_pos a3, a3]
          · rw [if_neg a0, if_neg a1, if_neg a2, if_neg a3, if_neg (by omega)])
  have s1 : Cn (uN M 31 8) 2 (Gx M 2 (arr 0 15) (arr 31 8) (cl M 2) (cl M 13)) := (s0.nN 31 8).cv (fun a => by
    by_cases a1 : a = 1
    · rw [if_pos a1, Gx, if_neg (by omega), if_pos a1]
    · rw [if_neg a1, Gx, Gx, if_neg a1, if_neg a1]
      by_cases a0 : a = 0
      · rw [if_pos a0, if_pos a0]
      · rw [if_neg a0, if_neg a0, if_neg (show ¬ a < 1 by omega), if_neg (show ¬ a < 2 by omega)])
  have s2 := Gx.r0 s1 0 (some 1)
  have s3 : Cn (uN (uR (uN M 31 8) 0 0 (some 1)) 32 7) 3 (Gx M 3 (upC (arr 0 15) 0 (some 1)) (arr 31 8) (arr 32 7) (cl M 13)) := (s2.nN 32 7).cv (fun a => by
    by_cases a2 : a = 2
    · rw [if_pos a2, Gx, if_neg (by omega), if_neg (by omega), if_pos a2]
    · rw [if_neg a2, Gx, Gx, if_neg a2, if_neg a2]
      by_cases a0 : a = 0
      · rw [if_pos a0, if_pos a0]
      · by_cases a1 : a = 1
        · rw [if_neg a0, if_neg a0, if_pos a1, if_pos a1]
        · rw [if_neg (show ¬ a < 2 by omega), if_neg (show ¬ a < 3 by omega)])
  have s4 := Gx.r0 s3 1 (some 2)
  have s5 := Gx.nw (k := 3) (m := 5) s4 (by omega) (cel_ext rfl rfl (fun k => SRR_a (a := 3) (by decide) k) (fun j => SI_0 (a := 3) (by decide) (by decide) j))
  refine Ev_of mcd_1 mok_1 (by decide) rfl (Nat.le_of_ble_eq_true rfl) ?_
  rw [show yl 1 = 2 from rfl]
  refine G_w (pf0_ok X) LK_1 (fun i => false) 40 _ _ _ _ ?_
  simp only [f_0, f_s, f_iconst, f_bipush, f_sipush, f_ldc, f_ldc_w, f_ldc2_w, f_ldI, f_ldL, f_ldA, f_iload, f_iload_n, f_lload, f_lload_n, f_aload, f_aload_n, f_istore, f_istore_n, f_lstore, f_lstore_n, f_astore, f_astore_n, f_iinc, f_icI, f_iadd, f_isub, f_imul, f_idiv, f_irem, f_iand, f_ior, f_ixor, f_ishl, f_ishr, f_iushr, f_i2l, f_i2b, f_i2s, f_ladd, f_lmul, f_lcmp, f_dupI, f_dupR, f_dup2, f_pop, f_goto, f_if, f_icmp, f_tab, f_ts0, f_ts1, f_getI, f_getZ, f_getR, f_putI, f_putR, f_gets, f_iald, f_bald, f_aald, f_iast, f_bast, f_aast, f_alen, f_new, f_newa, f_anew, f_virt, f_stat0, f_stat1, f_spec0, f_spec1, f_spec9, f_copy, f_max, f_min, f_cV1, f_cV0, f_cS1, f_cS0, f_iret, f_lret, f_vret, f_kG, pf0, cIg, inR, lget, lset, lset2, clr, entL, cnd, psh, catS, tsw, List.take_succ_cons, List.take_zero, List.drop_succ_cons, List.drop_zero, List.reverse_cons, List.reverse_nil, List.nil_append, List.cons_append, List.length_cons, List.length_nil, List.replicate_succ, List.replicate_zero, Nat.reduceAdd, Nat.reduceSub, Nat.reduceLeDiff, Nat.reduceLT, Nat.reduceEqDiff, Nat.reduceMul, Nat.zero_add, Nat.add_zero, Nat.le_refl, Nat.zero_le, Int.reduceEq, Int.reduceToNat, Int.toNat_natCast, Int.reduceNeg, Int.reduceAdd, Int.reduceSub, Int.reduceMul, Int.reduceLT, Int.reduceLE, Int.reduceDiv, Int.reduceMod, Bool.false_eq_true, ↓reduceIte, true_and, and_true, implies_true, forall_const, true_or, or_true, or_false, false_or, not_true_eq_false, not_false_eq_true, false_implies, Prod.mk.injEq, Fin.val_zero, Fin.val_one, Fin.isValue, Fin.reduceFinMk, Fin.val_two, mR_uI, mK_uI, mN_uI, mI_uR, mK_uR, mN_uR, mR_uC, mK_uC, mN_uC, Option.some.injEq, Sum.inl.injEq, Sum.inr.injEq, decide_true, decide_false, Bool.or_false, Bool.false_or, Bool.or_true, Bool.true_or, Nat.reduceBEq, beq_self_eq_true, show tb 1 = tb_1 from rfl, tb_1, tb_1_0, tb_1_1, tb_1_2, tb_1_3, mZ_uN, mS_uN, mZ_uR, mS_uR, mK_uN, hz, k0]
  (repeat' (first | with_reducible apply And.intro | with_reducible intro _)) <;> (try omega)
  refine ⟨(0, 0), ⟨by simp only []; omega, by simp only []; omega⟩, Ev_mono (e_newRd X _ 3) (fun q M1 hr z1 q1 => ?_)⟩
  obtain ⟨rfl, hs⟩ := hr
  simp only [mZ_uN, mS_uN, mZ_uR, mS_uR, hz, Nat.reduceAdd, Nat.add_zero] at z1 q1
  have t0 : Cn M1 4 (Gx M 4 (upC (upC (arr 0 15) 0 (some 1)) 1 (some 2)) (arr 31 8) (arr 32 7) (cl M 13)) := ⟨z1, fun a => (hs a).trans (s5.e a)⟩
  have k1 : mK M1 0 = 0 := by rw [t0.k]; rfl
  have t1 := Gx.r0 t0 2 (some 3)
  simp only [f_kG, psh, Nat.reduceAdd]
  refine G_w (pf0_ok X) LK_1 (fun i => false) 40 _ _ _ _ ?_
  simp only [f_0, f_s, f_iconst, f_bipush, f_sipush, f_ldc, f_ldc_w, f_ldc2_w, f_ldI, f_ldL, f_ldA, f_iload, f_iload_n, f_lload, f_lload_n, f_aload, f_aload_n, f_istore, f_istore_n, f_lstore, f_lstore_n, f_astore, f_astore_n, f_iinc, f_icI, f_iadd, f_isub, f_imul, f_idiv, f_irem, f_iand, f_ior, f_ixor, f_ishl, f_ishr, f_iushr, f_i2l, f_i2b, f_i2s, f_ladd, f_lmul, f_lcmp, f_dupI, f_dupR, f_dup2, f_pop, f_goto, f_if, f_icmp, f_tab, f_ts0, f_ts1, f_getI, f_getZ, f_getR, f_putI, f_putR, f_gets, f_iald, f_bald, f_aald, f_iast, f_bast, f_aast, f_alen, f_new, f_newa, f_anew, f_virt, f_stat0, f_stat1, f_spec0, f_spec1, f_spec9, f_copy, f_max, f_min, f_cV1, f_cV0, f_cS1, f_cS0, f_iret, f_lret, f_vret, f_kG, pf0, cIg, inR, lget, lset, lset2, clr, entL, cnd, psh, catS, tsw, List.take_succ_cons, List.take_zero, List.drop_succ_cons, List.drop_zero, List.reverse_cons, List.reverse_nil, List.nil_append, List.cons_append, List.length_cons, List.length_nil, List.replicate_succ, List.replicate_zero, Nat.reduceAdd, Nat.reduceSub, Nat.reduceLeDiff, Nat.reduceLT, Nat.reduceEqDiff, Nat.reduceMul, Nat.zero_add, Nat.add_zero, Nat.le_refl, Nat.zero_le, Int.reduceEq, Int.reduceToNat, Int.toNat_natCast, Int.reduceNeg, Int.reduceAdd, Int.reduceSub, Int.reduceMul, Int.reduceLT, Int.reduceLE, Int.reduceDiv, Int.reduceMod, Bool.false_eq_true, ↓reduceIte, true_and, and_true, implies_true, forall_const, true_or, or_true, or_false, false_or, not_true_eq_false, not_false_eq_true, false_implies, Prod.mk.injEq, Fin.val_zero, Fin.val_one, Fin.isValue, Fin.reduceFinMk, Fin.val_two, mR_uI, mK_uI, mN_uI, mI_uR, mK_uR, mN_uR, mR_uC, mK_uC, mN_uC, Option.some.injEq, Sum.inl.injEq, Sum.inr.injEq, decide_true, decide_false, Bool.or_false, Bool.false_or, Bool.or_true, Bool.true_or, Nat.reduceBEq, beq_self_eq_true, show tb 1 = tb_1 from rfl, tb_1, tb_1_0, tb_1_1, tb_1_2, tb_1_3, mZ_uN, mS_uN, mZ_uR, mS_uR, hz, z1, k1]
  (repeat' (first | with_reducible apply And.intro | with_reducible intro _)) <;> (try omega)
  refine ⟨(2, 60), ⟨by simp only []; omega, by simp only []; omega⟩, Ev_mono (e_newP X (uN (uR M1 0 2 (some 3)) 2 5) 4 (by omega) (by rw [mZ_uN, mZ_uR, z1]) (by decide) (by rw [cl_uN, if_pos (by rw [mZ_uR, z1])])) (fun q M2 hr z2 q2 => ?_)⟩
  obtain ⟨rfl, hL2⟩ := hr
  simp only [mZ_uN, mS_uN, mZ_uR, mS_uR, z1, Nat.reduceAdd] at z2 q2
  have t2 := Gx.bl t1 (by omega) (by omega) hL2 z2
  have k2 : mK M2 0 = 0 := by rw [t2.k]; rfl
  have t3 := Gx.r0 t2 7 (some 4)
  simp only [f_kG, psh, Nat.reduceAdd]
  refine G_w (pf0_ok X) LK_1 (fun i => false) 40 _ _ _ _ ?_
  simp only [f_0, f_s, f_iconst, f_bipush, f_sipush, f_ldc, f_ldc_w, f_ldc2_w, f_ldI, f_ldL, f_ldA, f_iload, f_iload_n, f_lload, f_lload_n, f_aload, f_aload_n, f_istore, f_istore_n, f_lstore, f_lstore_n, f_astore, f_astore_n, f_iinc, f_icI, f_iadd, f_isub, f_imul, f_idiv, f_irem, f_iand, f_ior, f_ixor, f_ishl, f_ishr, f_iushr, f_i2l, f_i2b, f_i2s, f_ladd, f_lmul, f_lcmp, f_dupI, f_dupR, f_dup2, f_pop, f_goto, f_if, f_icmp, f_tab, f_ts0, f_ts1, f_getI, f_getZ, f_getR, f_putI, f_putR, f_gets, f_iald, f_bald, f_aald, f_iast, f_bast, f_aast, f_alen, f_new, f_newa, f_anew, f_virt, f_stat0, f_stat1, f_spec0, f_spec1, f_spec9, f_copy, f_max, f_min, f_cV1, f_cV0, f_cS1, f_cS0, f_iret, f_lret, f_vret, f_kG, pf0, cIg, inR, lget, lset, lset2, clr, entL, cnd, psh, catS, tsw, List.take_succ_cons, List.take_zero, List.drop_succ_cons, List.drop_zero, List.reverse_cons, List.reverse_nil, List.nil_append, List.cons_append, List.length_cons, List.length_nil, List.replicate_succ, List.replicate_zero, Nat.reduceAdd, Nat.reduceSub, Nat.reduceLeDiff, Nat.reduceLT, Nat.reduceEqDiff, Nat.reduceMul, Nat.zero_add, Nat.add_zero, Nat.le_refl, Nat.zero_le, Int.reduceEq, Int.reduceToNat, Int.toNat_natCast, Int.reduceNeg, Int.reduceAdd, Int.reduceSub, Int.reduceMul, Int.reduceLT, Int.reduceLE, Int.reduceDiv, Int.reduceMod, Bool.false_eq_true, ↓reduceIte, true_and, and_true, implies_true, forall_const, true_or, or_true, or_false, false_or, not_true_eq_false, not_false_eq_true, false_implies, Prod.mk.injEq, Fin.val_zero, Fin.val_one, Fin.isValue, Fin.reduceFinMk, Fin.val_two, mR_uI, mK_uI, mN_uI, mI_uR, mK_uR, mN_uR, mR_uC, mK_uC, mN_uC, Option.some.injEq, Sum.inl.injEq, Sum.inr.injEq, decide_true, decide_false, Bool.or_false, Bool.false_or, Bool.or_true, Bool.true_or, Nat.reduceBEq, beq_self_eq_true, show tb 1 = tb_1 from rfl, tb_1, tb_1_0, tb_1_1, tb_1_2, tb_1_3, mZ_uN, mS_uN, mZ_uR, mS_uR, hz, z2, k2]
  (repeat' (first | with_reducible apply And.intro | with_reducible intro _)) <;> (try omega)
  refine ⟨(2, 60), ⟨by simp only []; omega, by simp only []; omega⟩, Ev_mono (e_newP X (uN (uR M2 0 7 (some 4)) 2 5) 7 (by omega) (by rw [mZ_uN, mZ_uR, z2]) (by decide) (by rw [cl_uN, if_pos (by rw [mZ_uR, z2])])) (fun q M3 hr z3 q3 => ?_)⟩
  obtain ⟨rfl, hL3⟩ := hr
  simp only [mZ_uN, mS_uN, mZ_uR, mS_uR, z2, Nat.reduceAdd] at z3 q3
  have t4 := Gx.bl t3 (by omega) (by omega) hL3 z3
  have k3 : mK M3 0 = 0 := by rw [t4.k]; rfl
  have t5 := Gx.r0 t4 9 (some 7)
  have t6 := Gx.nw (k := 20) (m := 12) t5 (by omega) (LC_a (by decide) (by decide))
  have t7 := Gx.r0 t6 11 (some 10)
  simp only [f_kG, psh, Nat.reduceAdd]
  refine G_w (pf0_ok X) LK_1 (fun i => false) 40 _ _ _ _ ?_
  simp only [f_0, f_s, f_iconst, f_bipush, f_sipush, f_ldc, f_ldc_w, f_ldc2_w, f_ldI, f_ldL, f_ldA, f_iload, f_iload_n, f_lload, f_lload_n, f_aload, f_aload_n, f_istore, f_istore_n, f_lstore, f_lstore_n, f_astore, f_astore_n, f_iinc, f_icI, f_iadd, f_isub, f_imul, f_idiv, f_irem, f_iand, f_ior, f_ixor, f_ishl, f_ishr, f_iushr, f_i2l, f_i2b, f_i2s, f_ladd, f_lmul, f_lcmp, f_dupI, f_dupR, f_dup2, f_pop, f_goto, f_if, f_icmp, f_tab, f_ts0, f_ts1, f_getI, f_getZ, f_getR, f_putI, f_putR, f_gets, f_iald, f_bald, f_aald, f_iast, f_bast, f_aast, f_alen, f_new, f_newa, f_anew, f_virt, f_stat0, f_stat1, f_spec0, f_spec1, f_spec9, f_copy, f_max, f_min, f_cV1, f_cV0, f_cS1, f_cS0, f_iret, f_lret, f_vret, f_kG, pf0, cIg, inR, lget, lset, lset2, clr, entL, cnd, psh, catS, tsw, List.take_succ_cons, List.take_zero, List.drop_succ_cons, List.drop_zero, List.reverse_cons, List.reverse_nil, List.nil_append, List.cons_append, List.length_cons, List.length_nil, List.replicate_succ, List.replicate_zero, Nat.reduceAdd, Nat.reduceSub, Nat.reduceLeDiff, Nat.reduceLT, Nat.reduceEqDiff, Nat.reduceMul, Nat.zero_add, Nat.add_zero, Nat.le_refl, Nat.zero_le, Int.reduceEq, Int.reduceToNat, Int.toNat_natCast, Int.reduceNeg, Int.reduceAdd, Int.reduceSub, Int.reduceMul, Int.reduceLT, Int.reduceLE, Int.reduceDiv, Int.reduceMod, Bool.false_eq_true, ↓reduceIte, true_and, and_true, implies_true, forall_const, true_or, or_true, or_false, false_or, not_true_eq_false, not_false_eq_true, false_implies, Prod.mk.injEq, Fin.val_zero, Fin.val_one, Fin.isValue, Fin.reduceFinMk, Fin.val_two, mR_uI, mK_uI, mN_uI, mI_uR, mK_uR, mN_uR, mR_uC, mK_uC, mN_uC, Option.some.injEq, Sum.inl.injEq, Sum.inr.injEq, decide_true, decide_false, Bool.or_false, Bool.false_or, Bool.or_true, Bool.true_or, Nat.reduceBEq, beq_self_eq_true, show tb 1 = tb_1 from rfl, tb_1, tb_1_0, tb_1_1, tb_1_2, tb_1_3, mZ_uN, mS_uN, mZ_uR, mS_uR, mK_uN, hz, z3, k3]
  (repeat' (first | with_reducible apply And.intro | with_reducible intro _)) <;> (try omega)
  refine ⟨(1, 360), ⟨by simp only []; omega, by simp only []; omega⟩, Ev_mono (e_newD X (uN (uR (uN (uR M3 0 9 (some 7)) 20 12) 0 11 (some 10)) 6 2) (by rw [mZ_uN, mZ_uR, mZ_uN, mZ_uR, z3]) (by rw [cl_uN, if_pos (by rw [mZ_uR, mZ_uN, mZ_uR, z3])])) (fun q M4 hr z4 q4 => ?_)⟩
  obtain ⟨rfl, hL4⟩ := hr
  simp only [mZ_uN, mS_uN, mZ_uR, mS_uR, z3, Nat.reduceAdd] at z4 q4
  have t8 := Gx.bl t7 (by omega) (by omega) hL4 z4
  have k4 : mK M4 0 = 0 := by rw [t8.k]; rfl
  have t9 := Gx.r0 t8 12 (some 11)
  have u0 : Cn (uN (uR M4 0 12 (some 11)) 37 4) 14 (Gx M 14 (upC (upC (upC (upC (upC (upC (upC (arr 0 15) 0 (some 1)) 1 (some 2)) 2 (some 3)) 7 (some 4)) 9 (some 7)) 11 (some 10)) 12 (some 11)) (arr 31 8) (arr 32 7) (arr 37 4)) := (t9.nN 37 4).cv (fun a => by
    by_cases a3 : a = 13
    · rw [if_pos a3, Gx, if_neg (by omega), if_neg (by omega), if_neg (by omega), if_pos a3]
    · rw [if_neg a3, Gx, Gx, if_neg a3, if_neg a3]
      by_cases a1 : a < 13
      · rw [if_pos a1, if_pos (show a < 14 by omega)]
      · rw [if_neg a1, if_neg (show ¬ a < 14 by omega)])
  have u1 := Gx.r0 u0 13 (some 13)
  rw [R0_eq, V0 (k0 := 31) (n := 8) (b := 14) (s := 2)] at u1
  have h9 := nx_texts X M hz 8 0 _ rfl u1 (by simp only [mS_uN, mS_uR]; omega)
  rw [hz] at h9
  simp only [f_kG, psh, Nat.reduceAdd]
  refine G_w (pf0_ok X) LK_1 (fun i => i == 40) 40 _ _ _ _ ?_
  simp only [f_0, f_s, f_iconst, f_bipush, f_sipush, f_ldc, f_ldc_w, f_ldc2_w, f_ldI, f_ldL, f_ldA, f_iload, f_iload_n, f_lload, f_lload_n, f_aload, f_aload_n, f_istore, f_istore_n, f_lstore, f_lstore_n, f_astore, f_astore_n, f_iinc, f_icI, f_iadd, f_isub, f_imul, f_idiv, f_irem, f_iand, f_ior, f_ixor, f_ishl, f_ishr, f_iushr, f_i2l, f_i2b, f_i2s, f_ladd, f_lmul, f_lcmp, f_dupI, f_dupR, f_dup2, f_pop, f_goto, f_if, f_icmp, f_tab, f_ts0, f_ts1, f_getI, f_getZ, f_getR, f_putI, f_putR, f_gets, f_iald, f_bald, f_aald, f_iast, f_bast, f_aast, f_alen, f_new, f_newa, f_anew, f_virt, f_stat0, f_stat1, f_spec0, f_spec1, f_spec9, f_copy, f_max, f_min, f_cV1, f_cV0, f_cS1, f_cS0, f_iret, f_lret, f_vret, f_kG, pf0, cIg, inR, lget, lset, lset2, clr, entL, cnd, psh, catS, tsw, List.take_succ_cons, List.take_zero, List.drop_succ_cons, List.drop_zero, List.reverse_cons, List.reverse_nil, List.nil_append, List.cons_append, List.length_cons, List.length_nil, List.replicate_succ, List.replicate_zero, Nat.reduceAdd, Nat.reduceSub, Nat.reduceLeDiff, Nat.reduceLT, Nat.reduceEqDiff, Nat.reduceMul, Nat.zero_add, Nat.add_zero, Nat.le_refl, Nat.zero_le, Int.reduceEq, Int.reduceToNat, Int.toNat_natCast, Int.reduceNeg, Int.reduceAdd, Int.reduceSub, Int.reduceMul, Int.reduceLT, Int.reduceLE, Int.reduceDiv, Int.reduceMod, Bool.false_eq_true, ↓reduceIte, true_and, and_true, implies_true, forall_const, true_or, or_true, or_false, false_or, not_true_eq_false, not_false_eq_true, false_implies, Prod.mk.injEq, Fin.val_zero, Fin.val_one, Fin.isValue, Fin.reduceFinMk, Fin.val_two, mR_uI, mK_uI, mN_uI, mI_uR, mK_uR, mN_uR, mR_uC, mK_uC, mN_uC, Option.some.injEq, Sum.inl.injEq, Sum.inr.injEq, decide_true, decide_false, Bool.or_false, Bool.false_or, Bool.or_true, Bool.true_or, Nat.reduceBEq, beq_self_eq_true, show tb 1 = tb_1 from rfl, tb_1, tb_1_0, tb_1_1, tb_1_2, tb_1_3, mZ_uN, mS_uN, mZ_uR, mS_uR, mK_uN, hz, z4, k4]
  (repeat' (first | with_reducible apply And.intro | with_reducible intro _)) <;> (try omega)
  all_goals exact h9
