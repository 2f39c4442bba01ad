/-! complete's loop -/
set_option maxRecDepth 100000 in
set_option maxHeartbeats 4000000 in
theorem c_out (X : CX) (M : Mem) (c s va : Nat) (o rs lo o3 : Int) (ps qs : List Nat) (M1 : Mem) (h0 : rs ≠ 0) (hW : CW M1 c o ps qs) (hS : Smr M M1 (CRc c) (CQ c)) (h1 : mI M1 c 1 = rs) (h2 : mI M1 c 2 = s) (hra : RA M1 (c + 1) 24 ps) (hrq : RA M1 59 100 qs) : G X y_Completion_complete (mZ M, mS M, 0, 0) 17 [some (aR (some c)), some (aR (some va)), some (aI lo), some (aI o3)] [] M1 (CD M c o (rs, s, [])) := by
  have hW0 := hW
  obtain ⟨hE, hcc, hca, ho1, ho2, htk, hrp, hrq2⟩ := hW
  obtain ⟨c1, c2, c3, -⟩ := hca
  have k1 := hra.1
  have k2 := hrq.1
  refine G_w (pfb_ok X) LK_41 (fun i => i == 17) 40 _ _ _ _ ?_
  simp only [f_0, f_s, f_iconst, f_bipush, f_sipush, f_ldc, f_ldc_w, f_ldc2_w, f_ldI, f_ldL, f_ldA, f_iload, f_iload_n, f_lload, f_lload_n, f_aload, f_aload_n, f_istore, f_istore_n, f_lstore, f_lstore_n, f_astore, f_astore_n, f_iinc, f_icI, f_iadd, f_isub, f_imul, f_idiv, f_irem, f_iand, f_ior, f_ixor, f_ishl, f_ishr, f_iushr, f_i2l, f_i2b, f_i2s, f_ladd, f_lmul, f_lcmp, f_dupI, f_dupR, f_dup2, f_pop, f_goto, f_if, f_icmp, f_tab, f_ts0, f_ts1, f_getI, f_getZ, f_getR, f_putI, f_putR, f_gets, f_iald, f_bald, f_aald, f_iast, f_bast, f_aast, f_alen, f_new, f_newa, f_anew, f_virt, f_stat0, f_stat1, f_spec0, f_spec1, f_spec9, f_copy, f_max, f_min, f_cV1, f_cV0, f_cS1, f_cS0, f_iret, f_lret, f_vret, f_kG, pf0, cIg, inR, lget, lset, lset2, clr, entL, cnd, psh, catS, tsw, List.take_succ_cons, List.take_zero, List.drop_succ_cons, List.drop_zero, List.reverse_cons, List.reverse_nil, List.nil_append, List.cons_append, List.length_cons, List.length_nil, List.replicate_succ, List.replicate_zero, Nat.reduceAdd, Nat.reduceSub, Nat.reduceLeDiff, Nat.reduceLT, Nat.reduceEqDiff, Nat.reduceMul, Nat.zero_add, Nat.add_zero, Nat.le_refl, Nat.zero_le, Int.reduceEq, Int.reduceToNat, Int.toNat_natCast, Int.reduceNeg, Int.reduceAdd, Int.reduceSub, Int.reduceMul, Int.reduceLT, Int.reduceLE, Int.reduceDiv, Int.reduceMod, Bool.false_eq_true, ↓reduceIte, true_and, and_true, implies_true, forall_const, true_or, or_true, or_false, false_or, not_true_eq_false, not_false_eq_true, false_implies, Prod.mk.injEq, Fin.val_zero, Fin.val_one, Fin.isValue, Fin.reduceFinMk, Fin.val_two, mR_uI, mK_uI, mN_uI, mI_uR, mK_uR, mN_uR, mR_uC, mK_uC, mN_uC, Option.some.injEq, Sum.inl.injEq, Sum.inr.injEq, decide_true, decide_false, Bool.or_false, Bool.false_or, Bool.or_true, Bool.true_or, Nat.reduceBEq, beq_self_eq_true, show tb 41 = tb_41 from rfl, tb_41, tb_41_0, tb_41_1, tb_41_2, pfb, pfb_b, pfb_c, pfb_v, pfa_b, pfa_c, pfa_v, c1, c2, c3, k1, k2, h1, h0]
  exact c_fin2 hW0 hS h1 h2 hra hrq
set_option maxRecDepth 100000 in
set_option maxHeartbeats 4000000 in
theorem c_nil (X : CX) (M : Mem) (c s va : Nat) (o lo o3 : Int) (ps qs : List Nat) (bs : List Mb) (M1 : Mem) (hW : CW M1 c o ps qs) (hS : Smr M M1 (CRc c) (CQ c)) (h1 : mI M1 c 1 = 0) (h2 : mI M1 c 2 = s) (hb : CB M1 (c + 1) 24 ps bs) (hp : PB M1 59 100 qs []) (ho : okB bs) : G X y_Completion_complete (mZ M, mS M, 0, 0) 17 [some (aR (some c)), some (aR (some va)), some (aI lo), some (aI o3)] [] M1 (CD M c o (0, s, bs)) := by
  have hW0 := hW
  obtain ⟨hE, hcc, hca, ho1, ho2, htk, hrp, hrq2⟩ := hW
  obtain ⟨c1, c2, c3, -⟩ := hca
  have k1 := hb.1.1
  have k2 := hp.1.1
  have k3 : mI M1 59 1 = 0 := hp.2.1
  have k4 : ((0 : Int) ≤ 0) = True := eq_true (Int.le_refl 0)
  refine G_w (pfb_ok X) LK_41 (fun i => i == 17) 40 _ _ _ _ ?_
  simp only [f_0, f_s, f_iconst, f_bipush, f_sipush, f_ldc, f_ldc_w, f_ldc2_w, f_ldI, f_ldL, f_ldA, f_iload, f_iload_n, f_lload, f_lload_n, f_aload, f_aload_n, f_istore, f_istore_n, f_lstore, f_lstore_n, f_astore, f_astore_n, f_iinc, f_icI, f_iadd, f_isub, f_imul, f_idiv, f_irem, f_iand, f_ior, f_ixor, f_ishl, f_ishr, f_iushr, f_i2l, f_i2b, f_i2s, f_ladd, f_lmul, f_lcmp, f_dupI, f_dupR, f_dup2, f_pop, f_goto, f_if, f_icmp, f_tab, f_ts0, f_ts1, f_getI, f_getZ, f_getR, f_putI, f_putR, f_gets, f_iald, f_bald, f_aald, f_iast, f_bast, f_aast, f_alen, f_new, f_newa, f_anew, f_virt, f_stat0, f_stat1, f_spec0, f_spec1, f_spec9, f_copy, f_max, f_min, f_cV1, f_cV0, f_cS1, f_cS0, f_iret, f_lret, f_vret, f_kG, pf0, cIg, inR, lget, lset, lset2, clr, entL, cnd, psh, catS, tsw, List.take_succ_cons, List.take_zero, List.drop_succ_cons, List.drop_zero, List.reverse_cons, List.reverse_nil, List.nil_append, List.cons_append, List.length_cons, List.length_nil, List.replicate_succ, List.replicate_zero, Nat.reduceAdd, Nat.reduceSub, Nat.reduceLeDiff, Nat.reduceLT, Nat.reduceEqDiff, Nat.reduceMul, Nat.zero_add, Nat.add_zero, Nat.le_refl, Nat.zero_le, Int.reduceEq, Int.reduceToNat, Int.toNat_natCast, Int.reduceNeg, Int.reduceAdd, Int.reduceSub, Int.reduceMul, Int.reduceLT, Int.reduceLE, Int.reduceDiv, Int.reduceMod, Bool.false_eq_true, ↓reduceIte, true_and, and_true, implies_true, forall_const, true_or, or_true, or_false, false_or, not_true_eq_false, not_false_eq_true, false_implies, Prod.mk.injEq, Fin.val_zero, Fin.val_one, Fin.isValue, Fin.reduceFinMk, Fin.val_two, mR_uI, mK_uI, mN_uI, mI_uR, mK_uR, mN_uR, mR_uC, mK_uC, mN_uC, Option.some.injEq, Sum.inl.injEq, Sum.inr.injEq, decide_true, decide_false, Bool.or_false, Bool.false_or, Bool.or_true, Bool.true_or, Nat.reduceBEq, beq_self_eq_true, show tb 41 = tb_41 from rfl, tb_41, tb_41_0, tb_41_1, tb_41_2, pfb, pfb_b, pfb_c, pfb_v, pfa_b, pfa_c, pfa_v, c1, c2, c3, k1, k2, h1, k3, k4]
  exact c_fin1 hW0 hS h1 h2 hp.1 hb ho
set_option maxRecDepth 100000 in
set_option maxHeartbeats 4000000 in
theorem c_loop (X : CX) (M : Mem) (c va : Nat) (o lo o3 : Int) : ∀ (k s : Nat) (bs : List Mb) (pl : List Po) (ps qs : List Nat) (M1 : Mem), s + k = 120 → CW M1 c o ps qs → CB M1 (c + 1) 24 ps bs → PB M1 59 100 qs pl → okB bs → okL pl → Smr M M1 (CRc c) (CQ c) → mI M1 c 1 = 0 → mI M1 c 2 = s → G X y_Completion_complete (mZ M, mS M, 0, 0) 17 [some (aR (some c)), some (aR (some va)), some (aI lo), some (aI o3)] [] M1 (CD M c o (cmL o k s bs pl)) := by
  intro k
  induction k with
  | zero =>
    intro s bs pl ps qs M1 hs hW hb hp okb okl hS h1 h2
    by_cases hpl : pl = []
    · subst hpl
      rw [cmL, if_pos rfl]
      exact c_nil X M c s va o lo o3 ps qs bs M1 hW hS h1 h2 hb hp okb
    · rw [cmL, if_neg hpl]
      have hlen : 0 < pl.length := List.length_pos_iff.mpr hpl
      have hW0 := hW
      obtain ⟨hE, hcc, hca, ho1, ho2, htk, hrp, hrq2⟩ := hW
      obtain ⟨c1, c2, c3, -⟩ := hca
      have k1 := hb.1.1
      have k2 := hp.1.1
      have k3 := hp.2.1
      have hs9 : s = 120 := by omega
      refine G_w (pfb_ok X) LK_41 (fun i => i == 17 || i == 59) 14 _ _ _ _ ?_
      simp only [f_0, f_s, f_iconst, f_bipush, f_sipush, f_ldc, f_ldc_w, f_ldc2_w, f_ldI, f_ldL, f_ldA, f_iload, f_iload_n, f_lload, f_lload_n, f_aload, f_aload_n, f_istore, f_istore_n, f_lstore, f_lstore_n, f_astore, f_astore_n, f_iinc, f_icI, f_iadd, f_isub, f_imul, f_idiv, f_irem, f_iand, f_ior, f_ixor, f_ishl, f_ishr, f_iushr, f_i2l, f_i2b, f_i2s, f_ladd, f_lmul, f_lcmp, f_dupI, f_dupR, f_dup2, f_pop, f_goto, f_if, f_icmp, f_tab, f_ts0, f_ts1, f_getI, f_getZ, f_getR, f_putI, f_putR, f_gets, f_iald, f_bald, f_aald, f_iast, f_bast, f_aast, f_alen, f_new, f_newa, f_anew, f_virt, f_stat0, f_stat1, f_spec0, f_spec1, f_spec9, f_copy, f_max, f_min, f_cV1, f_cV0, f_cS1, f_cS0, f_iret, f_lret, f_vret, f_kG, pf0, cIg, inR, lget, lset, lset2, clr, entL, cnd, psh, catS, tsw, List.take_succ_cons, List.take_zero, List.drop_succ_cons, List.drop_zero, List.reverse_cons, List.reverse_nil, List.nil_append, List.cons_append, List.length_cons, List.length_nil, List.replicate_succ, List.replicate_zero, Nat.reduceAdd, Nat.reduceSub, Nat.reduceLeDiff, Nat.reduceLT, Nat.reduceEqDiff, Nat.reduceMul, Nat.zero_add, Nat.add_zero, Nat.le_refl, Nat.zero_le, Int.reduceEq, Int.reduceToNat, Int.toNat_natCast, Int.reduceNeg, Int.reduceAdd, Int.reduceSub, Int.reduceMul, Int.reduceLT, Int.reduceLE, Int.reduceDiv, Int.reduceMod, Bool.false_eq_true, ↓reduceIte, true_and, and_true, implies_true, forall_const, true_or, or_true, or_false, false_or, not_true_eq_false, not_false_eq_true, false_implies, Prod.mk.injEq, Fin.val_zero, Fin.val_one, Fin.isValue, Fin.reduceFinMk, Fin.val_two, mR_uI, mK_uI, mN_uI, mI_uR, mK_uR, mN_uR, mR_uC, mK_uC, mN_uC, Option.some.injEq, Sum.inl.injEq, Sum.inr.injEq, decide_true, decide_false, Bool.or_false, Bool.false_or, Bool.or_true, Bool.true_or, Nat.reduceBEq, beq_self_eq_true, show tb 41 = tb_41 from rfl, tb_41, tb_41_0, tb_41_1, tb_41_2, pfb, pfb_b, pfb_c, pfb_v, pfa_b, pfa_c, pfa_v, c1, c2, c3, k1, k2, h1, h2, k3]
      have hf := c_end X M c o ps qs bs pl.length s 0 M1 [] hW0 hS h1 h2 hb.1 hp.1 k3 (fun _ => hb) okb (aR (some va)) (aI lo) (aI o3) ⟨_, rfl⟩ ⟨_, rfl⟩ ⟨_, rfl⟩
      rw [if_pos rfl, if_neg (by omega)] at hf
      exact ⟨fun h => by omega, fun _ => ⟨fun _ => hf, fun h => by omega⟩⟩
  | succ k ih =>
    intro s bs pl ps qs M1 hs hW hb hp okb okl hS h1 h2
    by_cases hpl : pl = []
    · subst hpl
      rw [cmL, if_pos rfl]
      exact c_nil X M c s va o lo o3 ps qs bs M1 hW hS h1 h2 hb hp okb
    · rw [cmL, if_neg hpl]
      have hlen : 0 < pl.length := List.length_pos_iff.mpr hpl
      have hW0 := hW
      obtain ⟨hE, hcc, hca, ho1, ho2, htk, hrp, hrq2⟩ := hW
      have hca0 := hca
      obtain ⟨c1, c2, c3, c4, -⟩ := hca
      have k1 := hb.1.1
      have k2 := hp.1.1
      have k3 := hp.2.1
      refine G_w (pfb_ok X) LK_41 (fun i => i == 17 || i == 59) 24 _ _ _ _ ?_
      simp only [f_0, f_s, f_iconst, f_bipush, f_sipush, f_ldc, f_ldc_w, f_ldc2_w, f_ldI, f_ldL, f_ldA, f_iload, f_iload_n, f_lload, f_lload_n, f_aload, f_aload_n, f_istore, f_istore_n, f_lstore, f_lstore_n, f_astore, f_astore_n, f_iinc, f_icI, f_iadd, f_isub, f_imul, f_idiv, f_irem, f_iand, f_ior, f_ixor, f_ishl, f_ishr, f_iushr, f_i2l, f_i2b, f_i2s, f_ladd, f_lmul, f_lcmp, f_dupI, f_dupR, f_dup2, f_pop, f_goto, f_if, f_icmp, f_tab, f_ts0, f_ts1, f_getI, f_getZ, f_getR, f_putI, f_putR, f_gets, f_iald, f_bald, f_aald, f_iast, f_bast, f_aast, f_alen, f_new, f_newa, f_anew, f_virt, f_stat0, f_stat1, f_spec0, f_spec1, f_spec9, f_copy, f_max, f_min, f_cV1, f_cV0, f_cS1, f_cS0, f_iret, f_lret, f_vret, f_kG, pf0, cIg, inR, lget, lset, lset2, clr, entL, cnd, psh, catS, tsw, List.take_succ_cons, List.take_zero, List.drop_succ_cons, List.drop_zero, List.reverse_cons, List.reverse_nil, List.nil_append, List.cons_append, List.length_cons, List.length_nil, List.replicate_succ, List.replicate_zero, Nat.reduceAdd, Nat.reduceSub, Nat.reduceLeDiff, Nat.reduceLT, Nat.reduceEqDiff, Nat.reduceMul, Nat.zero_add, Nat.add_zero, Nat.le_refl, Nat.zero_le, Int.reduceEq, Int.reduceToNat, Int.toNat_natCast, Int.reduceNeg, Int.reduceAdd, Int.reduceSub, Int.reduceMul, Int.reduceLT, Int.reduceLE, Int.reduceDiv, Int.reduceMod, Bool.false_eq_true, ↓reduceIte, true_and, and_true, implies_true, forall_const, true_or, or_true, or_false, false_or, not_true_eq_false, not_false_eq_true, false_implies, Prod.mk.injEq, Fin.val_zero, Fin.val_one, Fin.isValue, Fin.reduceFinMk, Fin.val_two, mR_uI, mK_uI, mN_uI, mI_uR, mK_uR, mN_uR, mR_uC, mK_uC, mN_uC, Option.some.injEq, Sum.inl.injEq, Sum.inr.injEq, decide_true, decide_false, Bool.or_false, Bool.false_or, Bool.or_true, Bool.true_or, Nat.reduceBEq, beq_self_eq_true, show tb 41 = tb_41 from rfl, tb_41, tb_41_0, tb_41_1, tb_41_2, pfb, pfb_b, pfb_c, pfb_v, pfa_b, pfa_c, pfa_v, c1, c2, c3, k1, k2, h1, h2, k3]
      refine ⟨fun h => by omega, fun _ => ⟨fun h => by omega, fun _ => ⟨by omega, ?_⟩⟩⟩
      have hW2 : CW (uI M1 c 2 (s + 1)) c o ps qs := CW_uc hW0 (by omega)
      have hSc : Same M1 (uI M1 c 2 (s + 1)) (fun a => a = c) := (Same.rf M1 (fun a => a = c)).uI rfl 2 _
      have hp2 := PB_same hp hSc (by omega) (fun q hq => by have := hrq2 q hq; omega)
      have hb2 := CB_same hb hSc (by omega) (fun q hq => by have := hrp q hq; omega)
      have g1 : mI (uI M1 c 2 (s + 1 : Int)) c 1 = 0 := (mI_uI_nk (by omega)).trans h1
      have g2 : mI (uI M1 c 2 (s + 1 : Int)) c 2 = s + 1 := mI_uI_eq
      have hSM2 : Smr M (uI M1 c 2 (s + 1)) (CRc c) (CQ c) := hS.uI (Or.inl rfl) 2 _
      generalize uI M1 c 2 (s + 1 : Int) = M2 at hW2 hSc hp2 hb2 g1 g2 hSM2 ⊢
      have hlow : lowI o pl < pl.length := lowF_lt o pl (pl.length - 1) 0 1 hlen (by omega)
      obtain ⟨g, hg, -⟩ := hp.2.2.2 _ _ (List.getElem?_eq_getElem hlow)
      have hW2' := hW2
      obtain ⟨q1, q2, q3, q4, q5, q6, q7, q8⟩ := hW2'
      refine Ev_mono (e_takeLowest X M2 c o qs pl q3 hcc q4 q5 q6 hp2 okl hrq2 hpl) (fun r M3 hr _ _ => ?_)
      obtain ⟨rfl, x1, x2, x3⟩ := hr
      have hS3 : Smr M2 M3 (CR c) (CQ c) := x3.w (fun a h => by unfold T3 at h; unfold CR; omega) (fun a h => by unfold CQ; omega)
      have hpm := rot_perm hg hlow (by have := hp.2.2.1; have := hp.1.2.2.2.2.1; omega)
      have hrq3 : ∀ q ∈ rot qs (lowI o pl) pl.length, 61 ≤ q ∧ q ≤ 358 := fun q hq => hrq2 q (hpm.mem_iff.mp hq)
      have okl3 : okL (pl.eraseIdx (lowI o pl)) := fun L hL => okl L (List.mem_of_mem_eraseIdx hL)
      have hcm : cmS o bs pl = (if (nfF o bs 32768 0 (pl.getD (lowI o pl) [])).1 = true then (if (nfF o bs 32768 0 (pl.getD (lowI o pl) [])).2 = [] then (0, bs, pl.eraseIdx (lowI o pl)) else match admF (mon (nfF o bs 32768 0 (pl.getD (lowI o pl) [])).2) bs (pl.eraseIdx (lowI o pl)) with
        | none => (3, bs, pl)
        | some (bs', pl') => prF bs' [] pl') else (2, bs, pl)) := rfl
      have okt : okP (pl.getD (lowI o pl) []) := by
        rw [getD_at (List.getElem?_eq_getElem hlow)]
        exact (okl _ (List.getElem_mem _)).1
      generalize pl.getD (lowI o pl) [] = t at x2 hcm okt
      generalize rot qs (lowI o pl) pl.length = qs3 at x1 hrq3
      generalize pl.eraseIdx (lowI o pl) = pl3 at x1 hcm okl3
      have hW3 : CW M3 c o ps qs3 := hW2.smr hS3 hrp hrq3
      have hb3 := CB_smr hb2 x3 (by unfold T3; omega) (by omega) (by omega) (fun q hq => by have := hrp q hq; unfold T3; omega)
      have hW3' := hW3
      obtain ⟨w1, -, w3, w4, w5, w6, -, -⟩ := hW3'
      have w3' := w3
      obtain ⟨d1, d2, d3, d4, -⟩ := w3'
      have d6 := w6.1
      simp only [f_kG, psh, Nat.reduceAdd]
      refine G_w (pfb_ok X) LK_41 (fun i => i == 17 || i == 59) 14 _ _ _ _ ?_
      simp only [f_0, f_s, f_iconst, f_bipush, f_sipush, f_ldc, f_ldc_w, f_ldc2_w, f_ldI, f_ldL, f_ldA, f_iload, f_iload_n, f_lload, f_lload_n, f_aload, f_aload_n, f_istore, f_istore_n, f_lstore, f_lstore_n, f_astore, f_astore_n, f_iinc, f_icI, f_iadd, f_isub, f_imul, f_idiv, f_irem, f_iand, f_ior, f_ixor, f_ishl, f_ishr, f_iushr, f_i2l, f_i2b, f_i2s, f_ladd, f_lmul, f_lcmp, f_dupI, f_dupR, f_dup2, f_pop, f_goto, f_if, f_icmp, f_tab, f_ts0, f_ts1, f_getI, f_getZ, f_getR, f_putI, f_putR, f_gets, f_iald, f_bald, f_aald, f_iast, f_bast, f_aast, f_alen, f_new, f_newa, f_anew, f_virt, f_stat0, f_stat1, f_spec0, f_spec1, f_spec9, f_copy, f_max, f_min, f_cV1, f_cV0, f_cS1, f_cS0, f_iret, f_lret, f_vret, f_kG, pf0, cIg, inR, lget, lset, lset2, clr, entL, cnd, psh, catS, tsw, List.take_succ_cons, List.take_zero, List.drop_succ_cons, List.drop_zero, List.reverse_cons, List.reverse_nil, List.nil_append, List.cons_append, List.length_cons, List.length_nil, List.replicate_succ, List.replicate_zero, Nat.reduceAdd, Nat.reduceSub, Nat.reduceLeDiff, Nat.reduceLT, Nat.reduceEqDiff, Nat.reduceMul, Nat.zero_add, Nat.add_zero, Nat.le_refl, Nat.zero_le, Int.reduceEq, Int.reduceToNat, Int.toNat_natCast, Int.reduceNeg, Int.reduceAdd, Int.reduceSub, Int.reduceMul, Int.reduceLT, Int.reduceLE, Int.reduceDiv, Int.reduceMod, Bool.false_eq_true, ↓reduceIte, true_and, and_true, implies_true, forall_const, true_or, or_true, or_false, false_or, not_true_eq_false, not_false_eq_true, false_implies, Prod.mk.injEq, Fin.val_zero, Fin.val_one, Fin.isValue, Fin.reduceFinMk, Fin.val_two, mR_uI, mK_uI, mN_uI, mI_uR, mK_uR, mN_uR, mR_uC, mK_uC, mN_uC, Option.some.injEq, Sum.inl.injEq, Sum.inr.injEq, decide_true, decide_false, Bool.or_false, Bool.false_or, Bool.or_true, Bool.true_or, Nat.reduceBEq, beq_self_eq_true, show tb 41 = tb_41 from rfl, tb_41, tb_41_0, tb_41_1, tb_41_2, pfb, pfb_b, pfb_c, pfb_v, pfa_b, pfa_c, pfa_v, d1, d4, d6]
      refine Ev_mono (e_reduce X M3 c (c + 75) o t ps bs w1 w3 w4 w6 (by have := big_gt; omega) hb3.1.1 (by unfold far; omega) x2 okt hb3 okb (fun q hq => by have := hrp q hq; unfold far; omega)) (fun r M4 hr _ _ => ?_)
      obtain ⟨y1, rfl, y3⟩ := hr
      have hS4 : Smr M3 M4 (CR c) (CQ c) := (y1.smr (CQ c)).w (fun a h => by unfold TS T3 at h; unfold CR; omega) (fun _ h => h)
      have hW4 := hW3.smr hS4 hrp hrq3
      have hb4 := CB_same hb3 y1 (by unfold TS T3; omega) (fun q hq => by have := hrp q hq; unfold TS T3; omega)
      have hp4 := PB_same x1 y1 (by unfold TS T3; omega) (fun q hq => by have := hrq3 q hq; unfold TS T3; omega)
      have f1 : mI M4 c 1 = 0 := (hS4.2.2.2 _ _ (by unfold CR; omega)).trans ((hS3.2.2.2 _ _ (by unfold CR; omega)).trans g1)
      have f2 : mI M4 c 2 = ((s + 1 : Nat) : Int) := (hS4.2.2.2 _ _ (by unfold CR; omega)).trans ((hS3.2.2.2 _ _ (by unfold CR; omega)).trans g2)
      have hSM4 : Smr M M4 (CRc c) (CQ c) := (hSM2.tr (hS3.w (fun _ h => Or.inr h) (fun _ h => h))).tr (hS4.w (fun _ h => Or.inr h) (fun _ h => h))
      have hW4' := hW4
      obtain ⟨-, -, e3, e4, -, e6, -, -⟩ := hW4'
      obtain ⟨j1, j2, j3, j4, -⟩ := e3
      have j6 := e6.1
      have okr := nfF_ok (o := o) okb 32768 0 t okt
      generalize nfF o bs 32768 0 t = res at hcm y3 okr ⊢
      by_cases hr1 : res.1 = true
      · have z3 := y3 hr1
        rw [if_pos hr1] at hcm
        simp only [if_pos hr1]
        have z4 := z3.1
        by_cases hnil : res.2 = []
        · rw [if_pos hnil] at hcm
          rw [hcm, if_pos rfl]
          have z5 : mI M4 (c + 75) 2 = 0 := by rw [z4, hnil]; rfl
          have k4 : ((0 : Int) ≤ 0) = True := eq_true (Int.le_refl 0)
          simp only [f_kG, psh, Nat.reduceAdd]
          refine G_w (pfb_ok X) LK_41 (fun i => i == 17 || i == 59) 14 _ _ _ _ ?_
          simp only [f_0, f_s, f_iconst, f_bipush, f_sipush, f_ldc, f_ldc_w, f_ldc2_w, f_ldI, f_ldL, f_ldA, f_iload, f_iload_n, f_lload, f_lload_n, f_aload, f_aload_n, f_istore, f_istore_n, f_lstore, f_lstore_n, f_astore, f_astore_n, f_iinc, f_icI, f_iadd, f_isub, f_imul, f_idiv, f_irem, f_iand, f_ior, f_ixor, f_ishl, f_ishr, f_iushr, f_i2l, f_i2b, f_i2s, f_ladd, f_lmul, f_lcmp, f_dupI, f_dupR, f_dup2, f_pop, f_goto, f_if, f_icmp, f_tab, f_ts0, f_ts1, f_getI, f_getZ, f_getR, f_putI, f_putR, f_gets, f_iald, f_bald, f_aald, f_iast, f_bast, f_aast, f_alen, f_new, f_newa, f_anew, f_virt, f_stat0, f_stat1, f_spec0, f_spec1, f_spec9, f_copy, f_max, f_min, f_cV1, f_cV0, f_cS1, f_cS0, f_iret, f_lret, f_vret, f_kG, pf0, cIg, inR, lget, lset, lset2, clr, entL, cnd, psh, catS, tsw, List.take_succ_cons, List.take_zero, List.drop_succ_cons, List.drop_zero, List.reverse_cons, List.reverse_nil, List.nil_append, List.cons_append, List.length_cons, List.length_nil, List.replicate_succ, List.replicate_zero, Nat.reduceAdd, Nat.reduceSub, Nat.reduceLeDiff, Nat.reduceLT, Nat.reduceEqDiff, Nat.reduceMul, Nat.zero_add, Nat.add_zero, Nat.le_refl, Nat.zero_le, Int.reduceEq, Int.reduceToNat, Int.toNat_natCast, Int.reduceNeg, Int.reduceAdd, Int.reduceSub, Int.reduceMul, Int.reduceLT, Int.reduceLE, Int.reduceDiv, Int.reduceMod, Bool.false_eq_true, ↓reduceIte, true_and, and_true, implies_true, forall_const, true_or, or_true, or_false, false_or, not_true_eq_false, not_false_eq_true, false_implies, Prod.mk.injEq, Fin.val_zero, Fin.val_one, Fin.isValue, Fin.reduceFinMk, Fin.val_two, mR_uI, mK_uI, mN_uI, mI_uR, mK_uR, mN_uR, mR_uC, mK_uC, mN_uC, Option.some.injEq, Sum.inl.injEq, Sum.inr.injEq, decide_true, decide_false, Bool.or_false, Bool.false_or, Bool.or_true, Bool.true_or, Nat.reduceBEq, beq_self_eq_true, show tb 41 = tb_41 from rfl, tb_41, tb_41_0, tb_41_1, tb_41_2, pfb, pfb_b, pfb_c, pfb_v, pfa_b, pfa_c, pfa_v, j1, j4, j6, z5, k4]
          exact ih (s + 1) bs pl3 ps qs3 M4 (by omega) hW4 hb4 hp4 okb okl3 hSM4 f1 f2
        · rw [if_neg hnil] at hcm
          have hl9 : 0 < res.2.length := List.length_pos_iff.mpr hnil
          simp only [f_kG, psh, Nat.reduceAdd]
          refine G_w (pfb_ok X) LK_41 (fun i => i == 17 || i == 59) 14 _ _ _ _ ?_
          simp only [f_0, f_s, f_iconst, f_bipush, f_sipush, f_ldc, f_ldc_w, f_ldc2_w, f_ldI, f_ldL, f_ldA, f_iload, f_iload_n, f_lload, f_lload_n, f_aload, f_aload_n, f_istore, f_istore_n, f_lstore, f_lstore_n, f_astore, f_astore_n, f_iinc, f_icI, f_iadd, f_isub, f_imul, f_idiv, f_irem, f_iand, f_ior, f_ixor, f_ishl, f_ishr, f_iushr, f_i2l, f_i2b, f_i2s, f_ladd, f_lmul, f_lcmp, f_dupI, f_dupR, f_dup2, f_pop, f_goto, f_if, f_icmp, f_tab, f_ts0, f_ts1, f_getI, f_getZ, f_getR, f_putI, f_putR, f_gets, f_iald, f_bald, f_aald, f_iast, f_bast, f_aast, f_alen, f_new, f_newa, f_anew, f_virt, f_stat0, f_stat1, f_spec0, f_spec1, f_spec9, f_copy, f_max, f_min, f_cV1, f_cV0, f_cS1, f_cS0, f_iret, f_lret, f_vret, f_kG, pf0, cIg, inR, lget, lset, lset2, clr, entL, cnd, psh, catS, tsw, List.take_succ_cons, List.take_zero, List.drop_succ_cons, List.drop_zero, List.reverse_cons, List.reverse_nil, List.nil_append, List.cons_append, List.length_cons, List.length_nil, List.replicate_succ, List.replicate_zero, Nat.reduceAdd, Nat.reduceSub, Nat.reduceLeDiff, Nat.reduceLT, Nat.reduceEqDiff, Nat.reduceMul, Nat.zero_add, Nat.add_zero, Nat.le_refl, Nat.zero_le, Int.reduceEq, Int.reduceToNat, Int.toNat_natCast, Int.reduceNeg, Int.reduceAdd, Int.reduceSub, Int.reduceMul, Int.reduceLT, Int.reduceLE, Int.reduceDiv, Int.reduceMod, Bool.false_eq_true, ↓reduceIte, true_and, and_true, implies_true, forall_const, true_or, or_true, or_false, false_or, not_true_eq_false, not_false_eq_true, false_implies, Prod.mk.injEq, Fin.val_zero, Fin.val_one, Fin.isValue, Fin.reduceFinMk, Fin.val_two, mR_uI, mK_uI, mN_uI, mI_uR, mK_uR, mN_uR, mR_uC, mK_uC, mN_uC, Option.some.injEq, Sum.inl.injEq, Sum.inr.injEq, decide_true, decide_false, Bool.or_false, Bool.false_or, Bool.or_true, Bool.true_or, Nat.reduceBEq, beq_self_eq_true, show tb 41 = tb_41 from rfl, tb_41, tb_41_0, tb_41_1, tb_41_2, pfb, pfb_b, pfb_c, pfb_v, pfa_b, pfa_c, pfa_v, j1, j4, j6, z4]
          refine ⟨fun h => by omega, fun _ => ?_⟩
          refine Ev_mono (e_admit X M4 c o res.2 ps qs3 bs pl3 hW4 hb4 hp4 z3 okr hnil (fun b hb => ⟨(okb b hb).1, (okb b hb).2.1⟩)) (fun r M5 hr _ _ => ?_)
          obtain ⟨a1, ps', qs', a2, a3, a4, rfl, a6⟩ := hr
          have hSM5 : Smr M M5 (CRc c) (CQ c) := hSM4.tr (a1.w (fun _ h => Or.inr h) (fun _ h => h))
          have m2 : mI M5 c 2 = ((s + 1 : Nat) : Int) := (a1.2.2.2 _ _ (by unfold CR; omega)).trans f2
          have a2' := a2
          obtain ⟨-, -, ⟨n1, n2, -⟩, -, -, -, n7, n8⟩ := a2'
          cases hadm : admF (mon res.2) bs pl3 with
          | none =>
            rw [hadm] at hcm
            rw [hcm]
            simp only [f_kG, psh, Nat.reduceAdd]
            refine G_w (pfb_ok X) LK_41 (fun i => i == 17 || i == 59) 14 _ _ _ _ ?_
            simp only [f_0, f_s, f_iconst, f_bipush, f_sipush, f_ldc, f_ldc_w, f_ldc2_w, f_ldI, f_ldL, f_ldA, f_iload, f_iload_n, f_lload, f_lload_n, f_aload, f_aload_n, f_istore, f_istore_n, f_lstore, f_lstore_n, f_astore, f_astore_n, f_iinc, f_icI, f_iadd, f_isub, f_imul, f_idiv, f_irem, f_iand, f_ior, f_ixor, f_ishl, f_ishr, f_iushr, f_i2l, f_i2b, f_i2s, f_ladd, f_lmul, f_lcmp, f_dupI, f_dupR, f_dup2, f_pop, f_goto, f_if, f_icmp, f_tab, f_ts0, f_ts1, f_getI, f_getZ, f_getR, f_putI, f_putR, f_gets, f_iald, f_bald, f_aald, f_iast, f_bast, f_aast, f_alen, f_new, f_newa, f_anew, f_virt, f_stat0, f_stat1, f_spec0, f_spec1, f_spec9, f_copy, f_max, f_min, f_cV1, f_cV0, f_cS1, f_cS0, f_iret, f_lret, f_vret, f_kG, pf0, cIg, inR, lget, lset, lset2, clr, entL, cnd, psh, catS, tsw, List.take_succ_cons, List.take_zero, List.drop_succ_cons, List.drop_zero, List.reverse_cons, List.reverse_nil, List.nil_append, List.cons_append, List.length_cons, List.length_nil, List.replicate_succ, List.replicate_zero, Nat.reduceAdd, Nat.reduceSub, Nat.reduceLeDiff, Nat.reduceLT, Nat.reduceEqDiff, Nat.reduceMul, Nat.zero_add, Nat.add_zero, Nat.le_refl, Nat.zero_le, Int.reduceEq, Int.reduceToNat, Int.toNat_natCast, Int.reduceNeg, Int.reduceAdd, Int.reduceSub, Int.reduceMul, Int.reduceLT, Int.reduceLE, Int.reduceDiv, Int.reduceMod, Bool.false_eq_true, ↓reduceIte, true_and, and_true, implies_true, forall_const, true_or, or_true, or_false, false_or, not_true_eq_false, not_false_eq_true, false_implies, Prod.mk.injEq, Fin.val_zero, Fin.val_one, Fin.isValue, Fin.reduceFinMk, Fin.val_two, mR_uI, mK_uI, mN_uI, mI_uR, mK_uR, mN_uR, mR_uC, mK_uC, mN_uC, Option.some.injEq, Sum.inl.injEq, Sum.inr.injEq, decide_true, decide_false, Bool.or_false, Bool.false_or, Bool.or_true, Bool.true_or, Nat.reduceBEq, beq_self_eq_true, show tb 41 = tb_41 from rfl, tb_41, tb_41_0, tb_41_1, tb_41_2, pfb, pfb_b, pfb_c, pfb_v, pfa_b, pfa_c, pfa_v, n1, Option.isSome_none]
            exact c_out X M c (s + 1) va o 3 lo o3 ps' qs' _ (by omega) (CW_uc a2 (by omega)) (hSM5.uI (Or.inl rfl) 1 _) mI_uI_eq ((mI_uI_nk (by omega)).trans m2) a3 a4
          | some x =>
            obtain ⟨bs', pl'⟩ := x
            rw [hadm] at hcm a6
            obtain ⟨a7, a8⟩ := a6 bs' pl' rfl
            obtain ⟨ok5, ok6⟩ := admF_ok ⟨mon_ok okr, mon_ne hnil⟩ okb okl3 hadm
            simp only [f_kG, psh, Nat.reduceAdd]
            refine G_w (pfb_ok X) LK_41 (fun i => i == 17 || i == 59) 14 _ _ _ _ ?_
            simp only [f_0, f_s, f_iconst, f_bipush, f_sipush, f_ldc, f_ldc_w, f_ldc2_w, f_ldI, f_ldL, f_ldA, f_iload, f_iload_n, f_lload, f_lload_n, f_aload, f_aload_n, f_istore, f_istore_n, f_lstore, f_lstore_n, f_astore, f_astore_n, f_iinc, f_icI, f_iadd, f_isub, f_imul, f_idiv, f_irem, f_iand, f_ior, f_ixor, f_ishl, f_ishr, f_iushr, f_i2l, f_i2b, f_i2s, f_ladd, f_lmul, f_lcmp, f_dupI, f_dupR, f_dup2, f_pop, f_goto, f_if, f_icmp, f_tab, f_ts0, f_ts1, f_getI, f_getZ, f_getR, f_putI, f_putR, f_gets, f_iald, f_bald, f_aald, f_iast, f_bast, f_aast, f_alen, f_new, f_newa, f_anew, f_virt, f_stat0, f_stat1, f_spec0, f_spec1, f_spec9, f_copy, f_max, f_min, f_cV1, f_cV0, f_cS1, f_cS0, f_iret, f_lret, f_vret, f_kG, pf0, cIg, inR, lget, lset, lset2, clr, entL, cnd, psh, catS, tsw, List.take_succ_cons, List.take_zero, List.drop_succ_cons, List.drop_zero, List.reverse_cons, List.reverse_nil, List.nil_append, List.cons_append, List.length_cons, List.length_nil, List.replicate_succ, List.replicate_zero, Nat.reduceAdd, Nat.reduceSub, Nat.reduceLeDiff, Nat.reduceLT, Nat.reduceEqDiff, Nat.reduceMul, Nat.zero_add, Nat.add_zero, Nat.le_refl, Nat.zero_le, Int.reduceEq, Int.reduceToNat, Int.toNat_natCast, Int.reduceNeg, Int.reduceAdd, Int.reduceSub, Int.reduceMul, Int.reduceLT, Int.reduceLE, Int.reduceDiv, Int.reduceMod, Bool.false_eq_true, ↓reduceIte, true_and, and_true, implies_true, forall_const, true_or, or_true, or_false, false_or, not_true_eq_false, not_false_eq_true, false_implies, Prod.mk.injEq, Fin.val_zero, Fin.val_one, Fin.isValue, Fin.reduceFinMk, Fin.val_two, mR_uI, mK_uI, mN_uI, mI_uR, mK_uR, mN_uR, mR_uC, mK_uC, mN_uC, Option.some.injEq, Sum.inl.injEq, Sum.inr.injEq, decide_true, decide_false, Bool.or_false, Bool.false_or, Bool.or_true, Bool.true_or, Nat.reduceBEq, beq_self_eq_true, show tb 41 = tb_41 from rfl, tb_41, tb_41_0, tb_41_1, tb_41_2, pfb, pfb_b, pfb_c, pfb_v, pfa_b, pfa_c, pfa_v, n1, Option.isSome_some]
            refine Ev_mono (e_prolong X M5 c o ps' qs' bs' pl' a2 a7 a8 (fun b hb => (ok5 b hb).1)) (fun r M6 hr _ _ => ?_)
            obtain ⟨b1, rfl, b3⟩ := hr
            have hS6 : Smr M5 M6 (CR c) (CQ c) := b1.smr (CQ c)
            have hW6 := a2.smr hS6 n7 n8
            have hSM6 : Smr M M6 (CRc c) (CQ c) := hSM5.tr (hS6.w (fun _ h => Or.inr h) (fun _ h => h))
            have m6 : mI M6 c 2 = ((s + 1 : Nat) : Int) := (b1.2.2.2 _ _ (by unfold CR; omega)).trans m2
            have r6 : RA M6 (c + 1) 24 ps' := RA_smr a7.1 (b1.smr (fun _ => False)) (fun h => h) (fun h => h) (fun _ _ h => h)
            have r7 : RA M6 59 100 qs' := RA_smr a8.1 (b1.smr (fun _ => False)) (fun h => h) (fun h => h) (fun _ _ h => h)
            have n1' := (b1.1 c).trans n1
            have hpk := prF_ok bs' [] pl' ok5 (fun x hx => by cases hx) ok6
            rw [hcm]
            simp only
            simp only [f_kG, psh, Nat.reduceAdd]
            refine G_w (pfb_ok X) LK_41 (fun i => i == 17 || i == 59) 14 _ _ _ _ ?_
            simp only [f_0, f_s, f_iconst, f_bipush, f_sipush, f_ldc, f_ldc_w, f_ldc2_w, f_ldI, f_ldL, f_ldA, f_iload, f_iload_n, f_lload, f_lload_n, f_aload, f_aload_n, f_istore, f_istore_n, f_lstore, f_lstore_n, f_astore, f_astore_n, f_iinc, f_icI, f_iadd, f_isub, f_imul, f_idiv, f_irem, f_iand, f_ior, f_ixor, f_ishl, f_ishr, f_iushr, f_i2l, f_i2b, f_i2s, f_ladd, f_lmul, f_lcmp, f_dupI, f_dupR, f_dup2, f_pop, f_goto, f_if, f_icmp, f_tab, f_ts0, f_ts1, f_getI, f_getZ, f_getR, f_putI, f_putR, f_gets, f_iald, f_bald, f_aald, f_iast, f_bast, f_aast, f_alen, f_new, f_newa, f_anew, f_virt, f_stat0, f_stat1, f_spec0, f_spec1, f_spec9, f_copy, f_max, f_min, f_cV1, f_cV0, f_cS1, f_cS0, f_iret, f_lret, f_vret, f_kG, pf0, cIg, inR, lget, lset, lset2, clr, entL, cnd, psh, catS, tsw, List.take_succ_cons, List.take_zero, List.drop_succ_cons, List.drop_zero, List.reverse_cons, List.reverse_nil, List.nil_append, List.cons_append, List.length_cons, List.length_nil, List.replicate_succ, List.replicate_zero, Nat.reduceAdd, Nat.reduceSub, Nat.reduceLeDiff, Nat.reduceLT, Nat.reduceEqDiff, Nat.reduceMul, Nat.zero_add, Nat.add_zero, Nat.le_refl, Nat.zero_le, Int.reduceEq, Int.reduceToNat, Int.toNat_natCast, Int.reduceNeg, Int.reduceAdd, Int.reduceSub, Int.reduceMul, Int.reduceLT, Int.reduceLE, Int.reduceDiv, Int.reduceMod, Bool.false_eq_true, ↓reduceIte, true_and, and_true, implies_true, forall_const, true_or, or_true, or_false, false_or, not_true_eq_false, not_false_eq_true, false_implies, Prod.mk.injEq, Fin.val_zero, Fin.val_one, Fin.isValue, Fin.reduceFinMk, Fin.val_two, mR_uI, mK_uI, mN_uI, mI_uR, mK_uR, mN_uR, mR_uC, mK_uC, mN_uC, Option.some.injEq, Sum.inl.injEq, Sum.inr.injEq, decide_true, decide_false, Bool.or_false, Bool.false_or, Bool.or_true, Bool.true_or, Nat.reduceBEq, beq_self_eq_true, show tb 41 = tb_41 from rfl, tb_41, tb_41_0, tb_41_1, tb_41_2, pfb, pfb_b, pfb_c, pfb_v, pfa_b, pfa_c, pfa_v, n1']
            by_cases hz : (prF bs' [] pl').1 = 0
            · rw [if_pos hz]
              obtain ⟨b4, b5⟩ := b3 hz
              obtain ⟨b6, b7⟩ := hpk hz
              have hSc6 : Same M6 (uI M6 c 1 (prF bs' [] pl').1) (fun a => a = c) := (Same.rf M6 (fun a => a = c)).uI rfl 1 _
              exact ih (s + 1) _ _ ps' qs' _ (by omega) (CW_uc hW6 (by omega)) (CB_same b4 hSc6 (by omega) (fun q hq => by have := n7 q hq; omega)) (PB_same b5 hSc6 (by omega) (fun q hq => by have := n8 q hq; omega)) b6 b7 (hSM6.uI (Or.inl rfl) 1 _) (mI_uI_eq.trans hz) ((mI_uI_nk (by omega)).trans m6)
            · rw [if_neg hz]
              exact c_out X M c (s + 1) va o _ lo o3 ps' qs' _ hz (CW_uc hW6 (by omega)) (hSM6.uI (Or.inl rfl) 1 _) mI_uI_eq ((mI_uI_nk (by omega)).trans m6) r6 r7
      · rw [if_neg hr1] at hcm
        simp only [if_neg hr1]
        rw [hcm]
        simp only [f_kG, psh, Nat.reduceAdd]
        refine G_w (pfb_ok X) LK_41 (fun i => i == 17 || i == 59) 14 _ _ _ _ ?_
        simp only [f_0, f_s, f_iconst, f_bipush, f_sipush, f_ldc, f_ldc_w, f_ldc2_w, f_ldI, f_ldL, f_ldA, f_iload, f_iload_n, f_lload, f_lload_n, f_aload, f_aload_n, f_istore, f_istore_n, f_lstore, f_lstore_n, f_astore, f_astore_n, f_iinc, f_icI, f_iadd, f_isub, f_imul, f_idiv, f_irem, f_iand, f_ior, f_ixor, f_ishl, f_ishr, f_iushr, f_i2l, f_i2b, f_i2s, f_ladd, f_lmul, f_lcmp, f_dupI, f_dupR, f_dup2, f_pop, f_goto, f_if, f_icmp, f_tab, f_ts0, f_ts1, f_getI, f_getZ, f_getR, f_putI, f_putR, f_gets, f_iald, f_bald, f_aald, f_iast, f_bast, f_aast, f_alen, f_new, f_newa, f_anew, f_virt, f_stat0, f_stat1, f_spec0, f_spec1, f_spec9, f_copy, f_max, f_min, f_cV1, f_cV0, f_cS1, f_cS0, f_iret, f_lret, f_vret, f_kG, pf0, cIg, inR, lget, lset, lset2, clr, entL, cnd, psh, catS, tsw, List.take_succ_cons, List.take_zero, List.drop_succ_cons, List.drop_zero, List.reverse_cons, List.reverse_nil, List.nil_append, List.cons_append, List.length_cons, List.length_nil, List.replicate_succ, List.replicate_zero, Nat.reduceAdd, Nat.reduceSub, Nat.reduceLeDiff, Nat.reduceLT, Nat.reduceEqDiff, Nat.reduceMul, Nat.zero_add, Nat.add_zero, Nat.le_refl, Nat.zero_le, Int.reduceEq, Int.reduceToNat, Int.toNat_natCast, Int.reduceNeg, Int.reduceAdd, Int.reduceSub, Int.reduceMul, Int.reduceLT, Int.reduceLE, Int.reduceDiv, Int.reduceMod, Bool.false_eq_true, ↓reduceIte, true_and, and_true, implies_true, forall_const, true_or, or_true, or_false, false_or, not_true_eq_false, not_false_eq_true, false_implies, Prod.mk.injEq, Fin.val_zero, Fin.val_one, Fin.isValue, Fin.reduceFinMk, Fin.val_two, mR_uI, mK_uI, mN_uI, mI_uR, mK_uR, mN_uR, mR_uC, mK_uC, mN_uC, Option.some.injEq, Sum.inl.injEq, Sum.inr.injEq, decide_true, decide_false, Bool.or_false, Bool.false_or, Bool.or_true, Bool.true_or, Nat.reduceBEq, beq_self_eq_true, show tb 41 = tb_41 from rfl, tb_41, tb_41_0, tb_41_1, tb_41_2, pfb, pfb_b, pfb_c, pfb_v, pfa_b, pfa_c, pfa_v, j1]
        exact c_out X M c (s + 1) va o 2 lo o3 ps qs3 _ (by omega) (CW_uc hW4 (by omega)) (hSM4.uI (Or.inl rfl) 1 _) mI_uI_eq ((mI_uI_nk (by omega)).trans f2) hb4.1 hp4.1
