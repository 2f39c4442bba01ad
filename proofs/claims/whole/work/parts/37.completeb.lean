/-! complete's loop -/
set_option maxRecDepth 100000 in
set_option maxHeartbeats 4000000 in
theorem c_out (X : CX) (M : Mem) (c s va : Nat) (o rs lo o3 : Int) (ps qs : List Nat) (M1 : Mem) (h0 : rs ≠ 0) (hW : CW M1 c o ps qs) (hS : Smr M M1 (CRc c) (CQ c)) (h1 : mI M1 c 1 = rs) (h2 : mI M1 c 2 = s) (hra : RA M1 (c + 1) 24 ps) (hrq : RA M1 59 100 qs) : G X y_Completion_complete (mZ M, mS M, 0, 0) 17 [some (aR (some c)), some (aR (some va)), some (aI lo), some (aI o3)] [] M1 (CD M c o (rs, s, [])) := by
  have hW0 := hW
  obtain ⟨hE, hcc, hca, ho1, ho2, htk, hrp, hrq2⟩ := hW
  obtain ⟨c1, c2, c3, -⟩ := hca
  have k1 := hra.1
  have k2 := hrq.1
  refine G_w (pfb_ok X) LK_41 (fun i => i == 17) 40 _ _ _ _ ?_
  simp only [f_0, f_s, f_iconst, f_bipush, f_sipush, f_ldc, f_ldc_w, f_ldc2_w, f_ldI, f_ldL, f_ldA, f_iload, f_iload_n, f_lload, f_lload_n, f_aload, f_aload_n, f_istore, f_istore_n, f_lstore, f_lstore_n, f_astore, f_astore_n, f_iinc, f_icI, f_iadd, f_isub, f_imul, f_idiv, f_irem, f_iand, f_ior, f_ixor, f_ishl, f_ishr, f_iushr, f_i2l, f_i2b, f_i2s, f_ladd, f_lmul, f_lcmp, f_dupI, f_dupR, f_dup2, f_pop, f_goto, f_if, f_icmp, f_tab, f_ts0, f_ts1, f_getI, f_getZ, f_getR, f_putI, f_putR, f_gets, f_iald, f_bald, f_aald, f_iast, f_bast, f_aast, f_alen, f_new, f_newa, f_anew, f_virt, f_stat0, f_stat1, f_spec0, f_spec1, f_spec9, f_copy, f_max, f_min, f_cV1, f_cV0, f_cS1, f_cS0, f_iret, f_lret, f_vret, f_kG, pf0, cIg, inR, lget, lset, lset2, clr, entL, cnd, psh, catS, tsw, List.take_succ_cons, List.take_zero, List.drop_succ_cons, List.drop_zero, List.reverse_cons, List.reverse_nil, List.nil_append, List.cons_append, List.length_cons, List.length_nil, List.replicate_succ, List.replicate_zero, Nat.reduceAdd, Nat.reduceSub, Nat.reduceLeDiff, Nat.reduceLT, Nat.reduceEqDiff, Nat.reduceMul, Nat.zero_add, Nat.add_zero, Nat.le_refl, Nat.zero_le, Int.reduceEq, Int.reduceToNat, Int.toNat_natCast, Int.reduceNeg, Int.reduceAdd, Int.reduceSub, Int.reduceMul, Int.reduceLT, Int.reduceLE, Int.reduceDiv, Int.reduceMod, Bool.false_eq_true, ↓reduceIte, true_and, and_true, implies_true, forall_const, true_or, or_true, or_false, false_or, not_true_eq_false, not_false_eq_true, false_implies, Prod.mk.injEq, Fin.val_zero, Fin.val_one, Fin.isValue, Fin.reduceFinMk, Fin.val_two, mR_uI, mK_uI, mN_uI, mI_uR, mK_uR, mN_uR, mR_uC, mK_uC, mN_uC, Option.some.injEq, Sum.inl.injEq, Sum.inr.injEq, decide_true, decide_false, Bool.or_false, Bool.false_or, Bool.or_true, Bool.true_or, Nat.reduceBEq, beq_self_eq_true, show tb 41 = tb_41 from rfl, tb_41, tb_41_0, tb_41_1, tb_41_2, pfb, pfb_b, pfb_c, pfb_v, pfa_b, pfa_c, pfa_v, c1, c2, c3, k1, k2, h1, h0]
  exact c_fin2 hW0 hS h1 h2 hra hrq
set_option maxRecDepth 100000 in
set_option maxHeartbeats 4000000 in
theorem c_nil (X : CX) (M : Mem) (c s va : Nat) (o lo o3 : Int) (ps qs : List Nat) (bs : List Mb) (M1 : Mem) (hW : CW M1 c o ps qs) (hS : Smr M M1 (CRc c) (CQ c)) (h1 : mI M1 c 1 = 0) (h2 : mI M1 c 2 = s) (hb : CB M1 (c + 1) 24 ps bs) (hp : PB M1 59 100 qs []) (ho : okB bs) : G X y_Completion_complete (mZ M, mS M, 0, 0) 17 [some (aR (some c)), some (aR (some va)), some (aI lo), some (aI o3)] [] M1 (CD M c o (0, s, bs)) := by
  have hW0 := hW
  obtain ⟨hE, hcc, hca, ho1, ho2, htk, hrp, hrq2⟩ := hW
  obtain ⟨c1, c2, c3, -⟩ := hca
  have k1 := hb.1.1
  have k2 := hp.1.1
  have k3 : mI M1 59 1 = 0 := hp.2.1
  have k4 : ((0 : Int) ≤ 0) = True := eq_true (Int.le_refl 0)
  refine G_w (pfb_ok X) LK_41 (fun i => i == 17) 40 _ _ _ _ ?_
  simp only [f_0, f_s, f_iconst, f_bipush, f_sipush, f_ldc, f_ldc_w, f_ldc2_w, f_ldI, f_ldL, f_ldA, f_iload, f_iload_n, f_lload, f_lload_n, f_aload, f_aload_n, f_istore, f_istore_n, f_lstore, f_lstore_n, f_astore, f_astore_n, f_iinc, f_icI, f_iadd, f_isub, f_imul, f_idiv, f_irem, f_iand, f_ior, f_ixor, f_ishl, f_ishr, f_iushr, f_i2l, f_i2b, f_i2s, f_ladd, f_lmul, f_lcmp, f_dupI, f_dupR, f_dup2, f_pop, f_goto, f_if, f_icmp, f_tab, f_ts0, f_ts1, f_getI, f_getZ, f_getR, f_putI, f_putR, f_gets, f_iald, f_bald, f_aald, f_iast, f_bast, f_aast, f_alen, f_new, f_newa, f_anew, f_virt, f_stat0, f_stat1, f_spec0, f_spec1, f_spec9, f_copy, f_max, f_min, f_cV1, f_cV0, f_cS1, f_cS0, f_iret, f_lret, f_vret, f_kG, pf0, cIg, inR, lget, lset, lset2, clr, entL, cnd, psh, catS, tsw, List.take_succ_cons, List.take_zero, List.drop_succ_cons, List.drop_zero, List.reverse_cons, List.reverse_nil, List.nil_append, List.cons_append, List.length_cons, List.length_nil, List.replicate_succ, List.replicate_zero, Nat.reduceAdd, Nat.reduceSub, Nat.reduceLeDiff, Nat.reduceLT, Nat.reduceEqDiff, Nat.reduceMul, Nat.zero_add, Nat.add_zero, Nat.le_refl, Nat.zero_le, Int.reduceEq, Int.reduceToNat, Int.toNat_natCast, Int.reduceNeg, Int.reduceAdd, Int.reduceSub, Int.reduceMul, Int.reduceLT, Int.reduceLE, Int.reduceDiv, Int.reduceMod, Bool.false_eq_true, ↓reduceIte, true_and, and_true, implies_true, forall_const, true_or, or_true, or_false, false_or, not_true_eq_false, not_false_eq_true, false_implies, Prod.mk.injEq, Fin.val_zero, Fin.val_one, Fin.isValue, Fin.reduceFinMk, Fin.val_two, mR_uI, mK_uI, mN_uI, mI_uR, mK_uR, mN_uR, mR_uC, mK_uC, mN_uC, Option.some.injEq, Sum.inl.injEq, Sum.inr.injEq, decide_true, decide_false, Bool.or_false, Bool.false_or, Bool.or_true, Bool.true_or, Nat.reduceBEq, beq_self_eq_true, show tb 41 = tb_41 from rfl, tb_41, tb_41_0, tb_41_1, tb_41_2, pfb, pfb_b, pfb_c, pfb_v, pfa_b, pfa_c, pfa_v, c1, c2, c3, k1, k2, h1, k3, k4]
  exact c_fin1 hW0 hS h1 h2 hp.1 hb ho
set_option maxRecDepth 100000 in
set_option maxHeartbeats 4000000 in
theorem c_loop (X : CX) (M : Mem) (c va : Nat) (o lo o3 : Int) : ∀ (k s : Nat) (bs : List Mb) (pl : List Po) (ps qs : List Nat) (M1 : Mem), s + k = 120 → CW M1 c o ps qs → CB M1 (c + 1) 24 ps bs → PB M1 59 100 qs pl → okB bs → okL pl → Smr M M1 (CRc c) (CQ c) → mI M1 c 1 = 0 → mI M1 c 2 = s → G X y_Completion_complete (mZ M, mS M, 0, 0) 17 [some (aR (some c)), some (aR (some va)), some (aI lo), some (aI o3)] [] M1 (CD M c o (cmL o k s bs pl)) := by
  intro k
  induction k with
  | zero =>
    intro s bs pl ps qs M1 hs hW hb hp okb okl hS h1 h2
    by_cases hpl : pl = []
    · subst hpl
      rw [cmL, if_pos rfl]
      exact c_nil X M c s va o lo o3 ps qs bs M1 hW hS h1 h2 hb hp okb
    · rw [cmL, if_neg hpl]
      have hlen : 0 < pl.length := List.length_pos_iff.mpr hpl
      have hW0 := hW
      obtain ⟨hE, hcc, hca, ho1, ho2, htk, hrp, hrq2⟩ := hW
      obtain ⟨c1, c2, c3, -⟩ := hca
      have k1 := hb.1.1
      have k2 := hp.1.1
      have k3 := hp.2.1
      have hs9 : s = 120 := by omega
      refine G_w (pfb_ok X) LK_41 (fun i => i == 17 || i == 59) 14 _ _ _ _ ?_
      simp only [f_0, f_s, f_iconst, f_bipush, f_sipush, f_ldc, f_ldc_w, f_ldc2_w, f_ldI, f_ldL, f_ldA, f_iload, f_iload_n, f_lload, f_lload_n, f_aload, f_aload_n, f_istore, f_istore_n, f_lstore, f_lstore_n, f_astore, f_astore_n, f_iinc, f_icI, f_iadd, f_isub, f_imul, f_idiv, f_irem, f_iand, f_ior, f_ixor, f_ishl, f_ishr, f_iushr, f_i2l, f_i2b, f_i2s, f_ladd, f_lmul, f_lcmp, f_dupI, f_dupR, f_dup2, f_pop, f_goto, f_if, f_icmp, f_tab, f_ts0, f_ts1, f_getI, f_getZ, f_getR, f_putI, f_putR, f_gets, f_iald, f_bald, f_aald, f_iast, f_bast, f_aast, f_alen, f_new, f_newa, f_anew, f_virt, f_stat0, f_stat1, f_spec0, f_spec1, f_spec9, f_copy, f_max, f_min, f_cV1, f_cV0, f_cS1, f_cS0, f_iret, f_lret, f_vret, f_kG, pf0, cIg, inR, lget, lset, lset2, clr, entL, cnd, psh, catS, tsw, List.take_succ_cons, List.take_zero, List.drop_succ_cons, List.drop_zero, List.reverse_cons, List.reverse_nil, List.nil_append, List.cons_append, List.length_cons, List.length_nil, List.replicate_succ, List.replicate_zero, Nat.reduceAdd, Nat.reduceSub, Nat.reduceLeDiff, Nat.reduceLT, Nat.reduceEqDiff, Nat.reduceMul, Nat.zero_add, Nat.add_zero, Nat.le_refl, Nat.zero_le, Int.reduceEq, Int.reduceToNat, Int.toNat_natCast, Int.reduceNeg, Int.reduceAdd, Int.reduceSub, Int.reduceMul, Int.reduceLT, Int.reduceLE, Int.reduceDiv, Int.reduceMod, Bool.false_eq_true, ↓reduceIte, true_and, and_true, implies_true, forall_const, true_or, or_true, or_false, false_or, not_true_eq_false, not_false_eq_true, false_implies, Prod.mk.injEq, Fin.val_zero, Fin.val_one, Fin.isValue, Fin.reduceFinMk, Fin.val_two, mR_uI, mK_uI, mN_uI, mI_uR, mK_uR, mN_uR, mR_uC, mK_uC, mN_uC, Option.some.injEq, Sum.inl.injEq, Sum.inr.injEq, decide_true, decide_false, Bool.or_false, Bool.false_or, Bool.or_true, Bool.true_or, Nat.reduceBEq, beq_self_eq_true, show tb 41 = tb_41 from rfl, tb_41, tb_41_0, tb_41_1, tb_41_2, pfb, pfb_b, pfb_c, pfb_v, pfa_b, pfa_c, pfa_v, c1, c2, c3, k1, k2, h1, h2, k3]
      have hf := c_end X M c o ps qs bs pl.length s 0 M1 [] hW0 hS h1 h2 hb.1 hp.1 k3 (fun _ => hb) okb (aR (some va)) (aI lo) (aI o3) ⟨_, rfl⟩ ⟨_, rfl⟩ ⟨_, rfl⟩
      rw [if_pos rfl, if_neg (by omega)] at hf
      exact ⟨fun h => by omega, fun _ => ⟨fun _ => hf, fun h => by omega⟩⟩
  | succ k ih =>
    intro s bs pl ps qs M1 hs hW hb hp okb okl hS h1 h2
    by_cases hpl : pl = []
    · subst hpl
      rw [cmL, if_pos rfl]
      exact c_nil X M c s va o lo o3 ps qs bs M1 hW hS h1 h2 hb hp okb
    · rw [cmL, if_neg hpl]
      have hlen : 0 < pl.length := List.length_pos_iff.mpr hpl
      have hW0 := hW
      obtain ⟨hE, hcc, hca, ho1, ho2, htk, hrp, hrq2⟩ := hW
      have hca0 := hca
      obtain ⟨c1, c2, c3, c4, -⟩ := hca
      have k1 := hb.1.1
      have k2 := hp.1.1
      have k3 := hp.2.1
      refine G_w (pfb_ok X) LK_41 (fun i => i == 17 || i == 59) 24 _ _ _ _ ?_
      simp only [f_0, f_s, f_iconst, f_bipush, f_sipush, f_ldc, f_ldc_w, f_ldc2_w, f_ldI, f_ldL, f_ldA, f_iload, f_iload_n, f_lload, f_lload_n, f_aload, f_aload_n, f_istore, f_istore_n, f_lstore, f_lstore_n, f_astore, f_astore_n, f_iinc, f_icI, f_iadd, f_isub, f_imul, f_idiv, f_irem, f_iand, f_ior, f_ixor, f_ishl, f_ishr, f_iushr, f_i2l, f_i2b, f_i2s, f_ladd, f_lmul, f_lcmp, f_dupI, f_dupR, f_dup2, f_pop, f_goto, f_if, f_icmp, f_tab, f_ts0, f_ts1, f_getI, f_getZ, f_getR, f_putI, f_putR, f_gets, f_iald, f_bald, f_aald, f_iast, f_bast, f_aast, f_alen, f_new, f_newa, f_anew, f_virt, f_stat0, f_stat1, f_spec0, f_spec1, f_spec9, f_copy, f_max, f_min, f_cV1, f_cV0, f_cS1, f_cS0, f_iret, f_lret, f_vret, f_kG, pf0, cIg, inR, lget, lset, lset2, clr, entL, cnd, psh, catS, tsw, List.take_succ_cons, List.take_zero, List.drop_succ_cons, List.drop_zero, List.reverse_cons, List.reverse_nil, List.nil_append, List.cons_append, List.length_cons, List.length_nil, List.replicate_succ, List.replicate_zero, Nat.reduceAdd, Nat.reduceSub, Nat.reduceLeDiff, Nat.reduceLT, Nat.reduceEqDiff, Nat.reduceMul, Nat.zero_add, Nat.add_zero, Nat.le_refl, Nat.zero_le, Int.reduceEq, Int.reduceToNat, Int.toNat_natCast, Int.reduceNeg, Int.reduceAdd, Int.reduceSub, Int.reduceMul, Int.reduceLT, Int.reduceLE, Int.reduceDiv, Int.reduceMod, Bool.false_eq_true, ↓reduceIte, true_and, and_true, implies_true, forall_const, true_or, or_true, or_false, false_or, not_true_eq_false, not_false_eq_true, false_implies, Prod.mk.injEq, Fin.val_zero, Fin.val_one, Fin.isValue, Fin.reduceFinMk, Fin.val_two, mR_uI, mK_uI, mN_uI, mI_uR, mK_uR, mN_uR, mR_uC, mK_uC, mN_uC, Option.some.injEq, Sum.inl.injEq, Sum.inr.injEq, decide_true, decide_false, Bool.or_false, Bool.false_or, Bool.or_true, Bool.true_or, Nat.reduceBEq, beq_self_eq_true, show tb 41 = tb_41 from rfl, tb_41, tb_41_0, tb_41_1, tb_41_2, pfb, pfb_b, pfb_c, pfb_v, pfa_b, pfa_c, pfa_v, c1, c2, c3, k1, k2, h1, h2, k3]
      trace_state
      sorry
