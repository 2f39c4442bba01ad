/-! takes whole, isNormal -/
set_option maxRecDepth 100000 in
set_option maxHeartbeats 4000000 in
theorem e_takes (X : CX) (M : Mem) (bi : Nat) (o m f : Int) (L B : Po) (hs : Shp M) (ho : mI M 521 0 = o) (ho2 : 0 ≤ o ∧ o ≤ 2) (hbi : bi < 24) (hL : TP M 7 L) (hB : TP M (8 + bi) B) (okL : okP L) (okB : okP B) (hf : isPr f) (hm : 1 ≤ m ∧ m ≤ 30) : Ev X y_m_takes (0, 0) [aR (some 521), aI bi, aI f, aI m] M (TK2 M (mrg o (31 - m) f L B) (brs B f)) := by
  have e8 : ((8 : Int) + (bi : Int)).toNat = 8 + bi := by omega
  have e8' : ((8 + bi : Nat) : Int) = 8 + (bi : Int) := by omega
  have l1 := hB.1
  have l2 := hB.2.1
  have w1 := hL.1
  have w2 := hL.2.1
  -- the second loop: what is worked on is kept aside
  have keep : brs B f = true → ∀ (d i : Nat) (M1 : Mem), i + d = L.length → Fr M M1 (fun a => a = 7) NN (fun a => a = 528) → TP M1 7 L → TP M1 (8 + bi) B → (∀ j t, j < i → L[j]? = some t → mI M1 528 j = 32 * t.2 + t.1) → G X y_m_takes (mZ M, mS M, 0, 0) 30 [some (aR (some 521)), some (aI bi), some (aI f), some (aI m), some (aI (8 + bi)), some (aI L.length), some (aI i), none, none, none, none, none, none, none] [] M1 (TK2 M (mrg o (31 - m) f L B) true) := by
    intro hbr d
    induction d with
    | zero =>
      intro i M1 hi hF hT hTb hv
      have hge : (L.length : Int) ≤ (i : Int) := by omega
      refine G_w (pfb_ok X) LK_143 (fun i => i == 30 || i == 51) 20 _ _ _ _ ?_
      simp only [f_0, f_s, f_iconst, f_bipush, f_sipush, f_ldc, f_ldc_w, f_ldc2_w, f_ldI, f_ldL, f_ldA, f_iload, f_iload_n, f_lload, f_lload_n, f_aload, f_aload_n, f_istore, f_istore_n, f_lstore, f_lstore_n, f_astore, f_astore_n, f_iinc, f_icI, f_iadd, f_isub, f_imul, f_idiv, f_irem, f_iand, f_ior, f_ixor, f_ishl, f_ishr, f_iushr, f_i2l, f_i2b, f_i2s, f_ladd, f_lmul, f_lcmp, f_dupI, f_dupR, f_dup2, f_pop, f_goto, f_if, f_icmp, f_tab, f_ts0, f_ts1, f_getI, f_getZ, f_getR, f_putI, f_putR, f_gets, f_iald, f_bald, f_aald, f_iast, f_bast, f_aast, f_alen, f_new, f_newa, f_anew, f_virt, f_stat0, f_stat1, f_spec0, f_spec1, f_spec9, f_copy, f_max, f_min, f_cV1, f_cV0, f_cS1, f_cS0, f_iret, f_lret, f_vret, f_kG, pf0, cIg, inR, lget, lset, lset2, clr, entL, cnd, psh, catS, tsw, List.take_succ_cons, List.take_zero, List.drop_succ_cons, List.drop_zero, List.reverse_cons, List.reverse_nil, List.nil_append, List.cons_append, List.length_cons, List.length_nil, List.replicate_succ, List.replicate_zero, Nat.reduceAdd, Nat.reduceSub, Nat.reduceLeDiff, Nat.reduceLT, Nat.reduceEqDiff, Nat.reduceMul, Nat.zero_add, Nat.add_zero, Nat.le_refl, Nat.zero_le, Int.reduceEq, Int.reduceToNat, Int.toNat_natCast, Int.reduceNeg, Int.reduceAdd, Int.reduceSub, Int.reduceMul, Int.reduceLT, Int.reduceLE, Int.reduceDiv, Int.reduceMod, Bool.false_eq_true, ↓reduceIte, true_and, and_true, implies_true, forall_const, true_or, or_true, or_false, false_or, not_true_eq_false, not_false_eq_true, false_implies, Prod.mk.injEq, Fin.val_zero, Fin.val_one, Fin.isValue, Fin.reduceFinMk, Fin.val_two, mR_uI, mK_uI, mN_uI, mI_uR, mK_uR, mN_uR, mR_uC, mK_uC, mN_uC, Option.some.injEq, Sum.inl.injEq, Sum.inr.injEq, decide_true, decide_false, Bool.or_false, Bool.false_or, Bool.or_true, Bool.true_or, Nat.reduceBEq, beq_self_eq_true, show tb 143 = tb_143 from rfl, tb_143, tb_143_0, tb_143_1, tb_143_2, tb_143_3, tb_143_4, tb_143_5, tb_143_6, pfb, pfb_b, pfb_c, pfb_v, pfa_b, pfa_c, pfa_v, hge]
      exact tk_loop X M bi o m f L B hs ho ho2 hbi okL okB w2 (brs_pr okB hf hbr) hm _ (L.length + B.length) 0 0 L B [] M1 none none none none none (Nat.le_refl _) rfl (Nat.zero_le _) rfl (Nat.zero_le _) rfl (by simp) hF (fun j t ht => hv j t (by have := (List.getElem?_eq_some_iff.mp ht).1; omega) ht) hTb (fun j t ht => by simp at ht)
    | succ d ih =>
      intro i M1 hi hF hT hTb hv
      have hs1 := hF.shp hs
      have hge : ¬ (L.length : Int) ≤ (i : Int) := by omega
      obtain ⟨u, hu⟩ : ∃ u, L[i]? = some u := ⟨_, List.getElem?_eq_getElem (by omega)⟩
      have e2 : ((210 : Int) + (i : Int)).toNat = 210 + i := by omega
      have v2 : mI M1 522 (210 + i) = 32 * u.2 + u.1 := hT.2.2 i u hu
      have hFn := hF.uc (a := 528) (k := i) (v := 32 * u.2 + u.1) rfl (by omega)
      have hn := ih (i + 1) (uI M1 528 i (32 * u.2 + u.1)) (by omega) hFn ⟨(mI_uI_ne (by omega)).trans hT.1, hT.2.1, fun j t ht => (mI_uI_ne (by omega)).trans (hT.2.2 j t ht)⟩ ⟨(mI_uI_ne (by omega)).trans hTb.1, hTb.2.1, fun j t ht => (mI_uI_ne (by omega)).trans (hTb.2.2 j t ht)⟩ (fun j t hj ht => by
        by_cases hji : j = i
        · subst hji
          rw [hu] at ht; cases ht
          exact mI_uI_eq
        · rw [mI_uI_nk hji]; exact hv j t (by omega) ht)
      refine G_w (pfb_ok X) LK_143 (fun i => i == 30 || i == 51) 20 _ _ _ _ ?_
      simp only [f_0, f_s, f_iconst, f_bipush, f_sipush, f_ldc, f_ldc_w, f_ldc2_w, f_ldI, f_ldL, f_ldA, f_iload, f_iload_n, f_lload, f_lload_n, f_aload, f_aload_n, f_istore, f_istore_n, f_lstore, f_lstore_n, f_astore, f_astore_n, f_iinc, f_icI, f_iadd, f_isub, f_imul, f_idiv, f_irem, f_iand, f_ior, f_ixor, f_ishl, f_ishr, f_iushr, f_i2l, f_i2b, f_i2s, f_ladd, f_lmul, f_lcmp, f_dupI, f_dupR, f_dup2, f_pop, f_goto, f_if, f_icmp, f_tab, f_ts0, f_ts1, f_getI, f_getZ, f_getR, f_putI, f_putR, f_gets, f_iald, f_bald, f_aald, f_iast, f_bast, f_aast, f_alen, f_new, f_newa, f_anew, f_virt, f_stat0, f_stat1, f_spec0, f_spec1, f_spec9, f_copy, f_max, f_min, f_cV1, f_cV0, f_cS1, f_cS0, f_iret, f_lret, f_vret, f_kG, pf0, cIg, inR, lget, lset, lset2, clr, entL, cnd, psh, catS, tsw, List.take_succ_cons, List.take_zero, List.drop_succ_cons, List.drop_zero, List.reverse_cons, List.reverse_nil, List.nil_append, List.cons_append, List.length_cons, List.length_nil, List.replicate_succ, List.replicate_zero, Nat.reduceAdd, Nat.reduceSub, Nat.reduceLeDiff, Nat.reduceLT, Nat.reduceEqDiff, Nat.reduceMul, Nat.zero_add, Nat.add_zero, Nat.le_refl, Nat.zero_le, Int.reduceEq, Int.reduceToNat, Int.toNat_natCast, Int.reduceNeg, Int.reduceAdd, Int.reduceSub, Int.reduceMul, Int.reduceLT, Int.reduceLE, Int.reduceDiv, Int.reduceMod, Bool.false_eq_true, ↓reduceIte, true_and, and_true, implies_true, forall_const, true_or, or_true, or_false, false_or, not_true_eq_false, not_false_eq_true, false_implies, Prod.mk.injEq, Fin.val_zero, Fin.val_one, Fin.isValue, Fin.reduceFinMk, Fin.val_two, mR_uI, mK_uI, mN_uI, mI_uR, mK_uR, mN_uR, mR_uC, mK_uC, mN_uC, Option.some.injEq, Sum.inl.injEq, Sum.inr.injEq, decide_true, decide_false, Bool.or_false, Bool.false_or, Bool.or_true, Bool.true_or, Nat.reduceBEq, beq_self_eq_true, show tb 143 = tb_143 from rfl, tb_143, tb_143_0, tb_143_1, tb_143_2, tb_143_3, tb_143_4, tb_143_5, tb_143_6, pfb, pfb_b, pfb_c, pfb_v, pfa_b, pfa_c, pfa_v, hs1.mr1, hs1.mr2, hs1.mr3, hs1.mr4, hs1.mr5, hs1.mr14, hs1.mr15, hs1.mr16, hs1.mr18, hs1.mr19, hs1.mr20, hs1.mr21, hs1.mr22, hs1.mr23, hs1.mk521, hs1.mk522, hs1.mn522, hs1.mk523, hs1.mn523, hs1.mk524, hs1.mn524, hs1.mk525, hs1.mn525, hs1.mk526, hs1.mn526, hs1.mk527, hs1.mn527, hs1.mk528, hs1.mn528, hs1.mk529, hs1.mn529, hs1.mk530, hs1.mn530, hs1.mk531, hs1.mn531, hs1.mk532, hs1.mn532, hs1.mk533, hs1.mn533, hs1.mk534, hs1.mn534, hs1.mk535, hs1.mn535, hge, e2, v2]
      (repeat' (first | with_reducible apply And.intro | with_reducible intro _)) <;> (try omega)
      all_goals exact hn
  have loop : ∀ (B2 : Po) (j : Nat), B.drop j = B2 → j ≤ B.length → (brs B f = brs B2 f) → G X y_m_takes (mZ M, mS M, 0, 0) 6 [some (aR (some 521)), some (aI bi), some (aI f), some (aI m), some (aI (8 + bi)), some (aI j), none, none, none, none, none, none, none, none] [] M (TK2 M (mrg o (31 - m) f L B) (brs B f)) := by
    intro B2
    induction B2 with
    | nil =>
      intro j hd hj hbe
      have hj2 := drop_nil hd hj
      have hbr : brs B f = true := by rw [hbe]; rfl
      have hge : (B.length : Int) ≤ (j : Int) := by omega
      have hn := keep hbr L.length 0 M (by omega) (Fr.rf _ _ _ _) hL hB (fun j t hj => by omega)
      rw [hbr]
      refine G_w (pfb_ok X) LK_143 (fun i => i == 30) 40 _ _ _ _ ?_
      simp only [f_0, f_s, f_iconst, f_bipush, f_sipush, f_ldc, f_ldc_w, f_ldc2_w, f_ldI, f_ldL, f_ldA, f_iload, f_iload_n, f_lload, f_lload_n, f_aload, f_aload_n, f_istore, f_istore_n, f_lstore, f_lstore_n, f_astore, f_astore_n, f_iinc, f_icI, f_iadd, f_isub, f_imul, f_idiv, f_irem, f_iand, f_ior, f_ixor, f_ishl, f_ishr, f_iushr, f_i2l, f_i2b, f_i2s, f_ladd, f_lmul, f_lcmp, f_dupI, f_dupR, f_dup2, f_pop, f_goto, f_if, f_icmp, f_tab, f_ts0, f_ts1, f_getI, f_getZ, f_getR, f_putI, f_putR, f_gets, f_iald, f_bald, f_aald, f_iast, f_bast, f_aast, f_alen, f_new, f_newa, f_anew, f_virt, f_stat0, f_stat1, f_spec0, f_spec1, f_spec9, f_copy, f_max, f_min, f_cV1, f_cV0, f_cS1, f_cS0, f_iret, f_lret, f_vret, f_kG, pf0, cIg, inR, lget, lset, lset2, clr, entL, cnd, psh, catS, tsw, List.take_succ_cons, List.take_zero, List.drop_succ_cons, List.drop_zero, List.reverse_cons, List.reverse_nil, List.nil_append, List.cons_append, List.length_cons, List.length_nil, List.replicate_succ, List.replicate_zero, Nat.reduceAdd, Nat.reduceSub, Nat.reduceLeDiff, Nat.reduceLT, Nat.reduceEqDiff, Nat.reduceMul, Nat.zero_add, Nat.add_zero, Nat.le_refl, Nat.zero_le, Int.reduceEq, Int.reduceToNat, Int.toNat_natCast, Int.reduceNeg, Int.reduceAdd, Int.reduceSub, Int.reduceMul, Int.reduceLT, Int.reduceLE, Int.reduceDiv, Int.reduceMod, Bool.false_eq_true, ↓reduceIte, true_and, and_true, implies_true, forall_const, true_or, or_true, or_false, false_or, not_true_eq_false, not_false_eq_true, false_implies, Prod.mk.injEq, Fin.val_zero, Fin.val_one, Fin.isValue, Fin.reduceFinMk, Fin.val_two, mR_uI, mK_uI, mN_uI, mI_uR, mK_uR, mN_uR, mR_uC, mK_uC, mN_uC, Option.some.injEq, Sum.inl.injEq, Sum.inr.injEq, decide_true, decide_false, Bool.or_false, Bool.false_or, Bool.or_true, Bool.true_or, Nat.reduceBEq, beq_self_eq_true, show tb 143 = tb_143 from rfl, tb_143, tb_143_0, tb_143_1, tb_143_2, tb_143_3, tb_143_4, tb_143_5, tb_143_6, pfb, pfb_b, pfb_c, pfb_v, pfa_b, pfa_c, pfa_v, hs.mr1, hs.mr2, hs.mr3, hs.mr4, hs.mr5, hs.mr14, hs.mr15, hs.mr16, hs.mr18, hs.mr19, hs.mr20, hs.mr21, hs.mr22, hs.mr23, hs.mk521, hs.mk522, hs.mn522, hs.mk523, hs.mn523, hs.mk524, hs.mn524, hs.mk525, hs.mn525, hs.mk526, hs.mn526, hs.mk527, hs.mn527, hs.mk528, hs.mn528, hs.mk529, hs.mn529, hs.mk530, hs.mn530, hs.mk531, hs.mn531, hs.mk532, hs.mn532, hs.mk533, hs.mn533, hs.mk534, hs.mn534, hs.mk535, hs.mn535, l1, w1, e8, hge]
      (repeat' (first | with_reducible apply And.intro | with_reducible intro _)) <;> (try omega)
      all_goals exact hn
    | cons t B2 ih =>
      intro j hd hj hbe
      obtain ⟨p1, p2, p3⟩ := drop_cons hd
      obtain ⟨c1, c2, c3⟩ := tm_ok hB okB p1
      rw [e8'] at c1 c2 c3
      have okt := (okB t (List.mem_of_getElem? p1)).2
      have hge : ¬ (B.length : Int) ≤ (j : Int) := by omega
      by_cases hw : ex t.2 0 + ex f 0 ≤ 31 ∧ ex t.2 1 + ex f 1 ≤ 31 ∧ ex t.2 2 + ex f 2 ≤ 31
      · have hif : (if ex t.2 0 + ex f 0 ≤ 31 ∧ ex t.2 1 + ex f 1 ≤ 31 ∧ ex t.2 2 + ex f 2 ≤ 31 then (0 : Int) else 1) = 0 := if_pos hw
        have hb2 : brs (t :: B2) f = brs B2 f := by
          unfold brs
          rw [List.all_cons]
          have : brT t f = true := by unfold brT; rw [decide_eq_true_eq]; exact hw
          rw [this]; rfl
        refine G_w (pfb_ok X) LK_143 (fun i => i == 6 || i == 30) 40 _ _ _ _ ?_
        simp only [f_0, f_s, f_iconst, f_bipush, f_sipush, f_ldc, f_ldc_w, f_ldc2_w, f_ldI, f_ldL, f_ldA, f_iload, f_iload_n, f_lload, f_lload_n, f_aload, f_aload_n, f_istore, f_istore_n, f_lstore, f_lstore_n, f_astore, f_astore_n, f_iinc, f_icI, f_iadd, f_isub, f_imul, f_idiv, f_irem, f_iand, f_ior, f_ixor, f_ishl, f_ishr, f_iushr, f_i2l, f_i2b, f_i2s, f_ladd, f_lmul, f_lcmp, f_dupI, f_dupR, f_dup2, f_pop, f_goto, f_if, f_icmp, f_tab, f_ts0, f_ts1, f_getI, f_getZ, f_getR, f_putI, f_putR, f_gets, f_iald, f_bald, f_aald, f_iast, f_bast, f_aast, f_alen, f_new, f_newa, f_anew, f_virt, f_stat0, f_stat1, f_spec0, f_spec1, f_spec9, f_copy, f_max, f_min, f_cV1, f_cV0, f_cS1, f_cS0, f_iret, f_lret, f_vret, f_kG, pf0, cIg, inR, lget, lset, lset2, clr, entL, cnd, psh, catS, tsw, List.take_succ_cons, List.take_zero, List.drop_succ_cons, List.drop_zero, List.reverse_cons, List.reverse_nil, List.nil_append, List.cons_append, List.length_cons, List.length_nil, List.replicate_succ, List.replicate_zero, Nat.reduceAdd, Nat.reduceSub, Nat.reduceLeDiff, Nat.reduceLT, Nat.reduceEqDiff, Nat.reduceMul, Nat.zero_add, Nat.add_zero, Nat.le_refl, Nat.zero_le, Int.reduceEq, Int.reduceToNat, Int.toNat_natCast, Int.reduceNeg, Int.reduceAdd, Int.reduceSub, Int.reduceMul, Int.reduceLT, Int.reduceLE, Int.reduceDiv, Int.reduceMod, Bool.false_eq_true, ↓reduceIte, true_and, and_true, implies_true, forall_const, true_or, or_true, or_false, false_or, not_true_eq_false, not_false_eq_true, false_implies, Prod.mk.injEq, Fin.val_zero, Fin.val_one, Fin.isValue, Fin.reduceFinMk, Fin.val_two, mR_uI, mK_uI, mN_uI, mI_uR, mK_uR, mN_uR, mR_uC, mK_uC, mN_uC, Option.some.injEq, Sum.inl.injEq, Sum.inr.injEq, decide_true, decide_false, Bool.or_false, Bool.false_or, Bool.or_true, Bool.true_or, Nat.reduceBEq, beq_self_eq_true, show tb 143 = tb_143 from rfl, tb_143, tb_143_0, tb_143_1, tb_143_2, tb_143_3, tb_143_4, tb_143_5, tb_143_6, pfb, pfb_b, pfb_c, pfb_v, pfa_b, pfa_c, pfa_v, hs.mr1, hs.mr2, hs.mr3, hs.mr4, hs.mr5, hs.mr14, hs.mr15, hs.mr16, hs.mr18, hs.mr19, hs.mr20, hs.mr21, hs.mr22, hs.mr23, hs.mk521, hs.mk522, hs.mn522, hs.mk523, hs.mn523, hs.mk524, hs.mn524, hs.mk525, hs.mn525, hs.mk526, hs.mn526, hs.mk527, hs.mn527, hs.mk528, hs.mn528, hs.mk529, hs.mn529, hs.mk530, hs.mn530, hs.mk531, hs.mn531, hs.mk532, hs.mn532, hs.mk533, hs.mn533, hs.mk534, hs.mn534, hs.mk535, hs.mn535, hs, l1, e8, hge, c1, c2, okt, hf, hif]
        have hn := ih (j + 1) p2 (by omega) (hbe.trans hb2)
        (repeat' (first | with_reducible apply And.intro | with_reducible intro _)) <;> (try omega)
        all_goals exact hn
      · have hif : (if ex t.2 0 + ex f 0 ≤ 31 ∧ ex t.2 1 + ex f 1 ≤ 31 ∧ ex t.2 2 + ex f 2 ≤ 31 then (0 : Int) else 1) = 1 := if_neg hw
        have hb2 : brs B f = false := by
          rw [hbe]
          unfold brs
          rw [List.all_cons]
          have : brT t f = false := by unfold brT; rw [decide_eq_false_iff_not]; exact hw
          rw [this]; rfl
        have hfin : TK2 M (mrg o (31 - m) f L B) (brs B f) (some (aI 0)) M := ⟨Fr.rf _ _ _ _, Or.inr ⟨rfl, Or.inl hb2⟩⟩
        refine G_w (pfb_ok X) LK_143 (fun i => i == 6 || i == 30) 40 _ _ _ _ ?_
        simp only [f_0, f_s, f_iconst, f_bipush, f_sipush, f_ldc, f_ldc_w, f_ldc2_w, f_ldI, f_ldL, f_ldA, f_iload, f_iload_n, f_lload, f_lload_n, f_aload, f_aload_n, f_istore, f_istore_n, f_lstore, f_lstore_n, f_astore, f_astore_n, f_iinc, f_icI, f_iadd, f_isub, f_imul, f_idiv, f_irem, f_iand, f_ior, f_ixor, f_ishl, f_ishr, f_iushr, f_i2l, f_i2b, f_i2s, f_ladd, f_lmul, f_lcmp, f_dupI, f_dupR, f_dup2, f_pop, f_goto, f_if, f_icmp, f_tab, f_ts0, f_ts1, f_getI, f_getZ, f_getR, f_putI, f_putR, f_gets, f_iald, f_bald, f_aald, f_iast, f_bast, f_aast, f_alen, f_new, f_newa, f_anew, f_virt, f_stat0, f_stat1, f_spec0, f_spec1, f_spec9, f_copy, f_max, f_min, f_cV1, f_cV0, f_cS1, f_cS0, f_iret, f_lret, f_vret, f_kG, pf0, cIg, inR, lget, lset, lset2, clr, entL, cnd, psh, catS, tsw, List.take_succ_cons, List.take_zero, List.drop_succ_cons, List.drop_zero, List.reverse_cons, List.reverse_nil, List.nil_append, List.cons_append, List.length_cons, List.length_nil, List.replicate_succ, List.replicate_zero, Nat.reduceAdd, Nat.reduceSub, Nat.reduceLeDiff, Nat.reduceLT, Nat.reduceEqDiff, Nat.reduceMul, Nat.zero_add, Nat.add_zero, Nat.le_refl, Nat.zero_le, Int.reduceEq, Int.reduceToNat, Int.toNat_natCast, Int.reduceNeg, Int.reduceAdd, Int.reduceSub, Int.reduceMul, Int.reduceLT, Int.reduceLE, Int.reduceDiv, Int.reduceMod, Bool.false_eq_true, ↓reduceIte, true_and, and_true, implies_true, forall_const, true_or, or_true, or_false, false_or, not_true_eq_false, not_false_eq_true, false_implies, Prod.mk.injEq, Fin.val_zero, Fin.val_one, Fin.isValue, Fin.reduceFinMk, Fin.val_two, mR_uI, mK_uI, mN_uI, mI_uR, mK_uR, mN_uR, mR_uC, mK_uC, mN_uC, Option.some.injEq, Sum.inl.injEq, Sum.inr.injEq, decide_true, decide_false, Bool.or_false, Bool.false_or, Bool.or_true, Bool.true_or, Nat.reduceBEq, beq_self_eq_true, show tb 143 = tb_143 from rfl, tb_143, tb_143_0, tb_143_1, tb_143_2, tb_143_3, tb_143_4, tb_143_5, tb_143_6, pfb, pfb_b, pfb_c, pfb_v, pfa_b, pfa_c, pfa_v, hs.mr1, hs.mr2, hs.mr3, hs.mr4, hs.mr5, hs.mr14, hs.mr15, hs.mr16, hs.mr18, hs.mr19, hs.mr20, hs.mr21, hs.mr22, hs.mr23, hs.mk521, hs.mk522, hs.mn522, hs.mk523, hs.mn523, hs.mk524, hs.mn524, hs.mk525, hs.mn525, hs.mk526, hs.mn526, hs.mk527, hs.mn527, hs.mk528, hs.mn528, hs.mk529, hs.mn529, hs.mk530, hs.mn530, hs.mk531, hs.mn531, hs.mk532, hs.mn532, hs.mk533, hs.mn533, hs.mk534, hs.mn534, hs.mk535, hs.mn535, hs, l1, e8, hge, c1, c2, okt, hf, hif]
        (repeat' (first | with_reducible apply And.intro | with_reducible intro _)) <;> (try omega)
        all_goals exact hfin
  refine Ev_of mcd_143 mok_143 (by decide) rfl (Nat.le_of_ble_eq_true rfl) ?_
  rw [show yl 143 = 14 from rfl]
  refine G_w (pfb_ok X) LK_143 (fun i => i == 6) 10 _ _ _ _ ?_
  simp only [f_0, f_s, f_iconst, f_bipush, f_sipush, f_ldc, f_ldc_w, f_ldc2_w, f_ldI, f_ldL, f_ldA, f_iload, f_iload_n, f_lload, f_lload_n, f_aload, f_aload_n, f_istore, f_istore_n, f_lstore, f_lstore_n, f_astore, f_astore_n, f_iinc, f_icI, f_iadd, f_isub, f_imul, f_idiv, f_irem, f_iand, f_ior, f_ixor, f_ishl, f_ishr, f_iushr, f_i2l, f_i2b, f_i2s, f_ladd, f_lmul, f_lcmp, f_dupI, f_dupR, f_dup2, f_pop, f_goto, f_if, f_icmp, f_tab, f_ts0, f_ts1, f_getI, f_getZ, f_getR, f_putI, f_putR, f_gets, f_iald, f_bald, f_aald, f_iast, f_bast, f_aast, f_alen, f_new, f_newa, f_anew, f_virt, f_stat0, f_stat1, f_spec0, f_spec1, f_spec9, f_copy, f_max, f_min, f_cV1, f_cV0, f_cS1, f_cS0, f_iret, f_lret, f_vret, f_kG, pf0, cIg, inR, lget, lset, lset2, clr, entL, cnd, psh, catS, tsw, List.take_succ_cons, List.take_zero, List.drop_succ_cons, List.drop_zero, List.reverse_cons, List.reverse_nil, List.nil_append, List.cons_append, List.length_cons, List.length_nil, List.replicate_succ, List.replicate_zero, Nat.reduceAdd, Nat.reduceSub, Nat.reduceLeDiff, Nat.reduceLT, Nat.reduceEqDiff, Nat.reduceMul, Nat.zero_add, Nat.add_zero, Nat.le_refl, Nat.zero_le, Int.reduceEq, Int.reduceToNat, Int.toNat_natCast, Int.reduceNeg, Int.reduceAdd, Int.reduceSub, Int.reduceMul, Int.reduceLT, Int.reduceLE, Int.reduceDiv, Int.reduceMod, Bool.false_eq_true, ↓reduceIte, true_and, and_true, implies_true, forall_const, true_or, or_true, or_false, false_or, not_true_eq_false, not_false_eq_true, false_implies, Prod.mk.injEq, Fin.val_zero, Fin.val_one, Fin.isValue, Fin.reduceFinMk, Fin.val_two, mR_uI, mK_uI, mN_uI, mI_uR, mK_uR, mN_uR, mR_uC, mK_uC, mN_uC, Option.some.injEq, Sum.inl.injEq, Sum.inr.injEq, decide_true, decide_false, Bool.or_false, Bool.false_or, Bool.or_true, Bool.true_or, Nat.reduceBEq, beq_self_eq_true, show tb 143 = tb_143 from rfl, tb_143, tb_143_0, tb_143_1, tb_143_2, tb_143_3, tb_143_4, tb_143_5, tb_143_6, pfb, pfb_b, pfb_c, pfb_v, pfa_b, pfa_c, pfa_v]
  exact ⟨by omega, loop B 0 rfl (Nat.zero_le _) rfl⟩
/-! a normal form's turns -/
/-- how many products are below a rank -/
def cntN (N : Nat) (o r : Int) : Nat := ((List.range N).filter (fun p : Nat => decide (rk o (p : Int) < r))).length
def cntR (o r : Int) : Nat := cntN 32768 o r
theorem flt_le {P Q : Nat → Bool} (h : ∀ x, P x = true → Q x = true) : ∀ l : List Nat, (l.filter P).length ≤ (l.filter Q).length
  | [] => Nat.le_refl _
  | x :: l => by
    have ih := flt_le h l
    rw [List.filter_cons, List.filter_cons]
    by_cases hp : P x = true
    · rw [if_pos hp, if_pos (h x hp), List.length_cons, List.length_cons]; omega
    · rw [if_neg hp]
      split
      · rw [List.length_cons]; omega
      · exact ih
theorem flt_lt {P Q : Nat → Bool} (h : ∀ x, P x = true → Q x = true) {x0 : Nat} (hq : Q x0 = true) (hp : ¬ P x0 = true) : ∀ l : List Nat, x0 ∈ l → (l.filter P).length < (l.filter Q).length
  | [], hm => by cases hm
  | x :: l, hm => by
    rw [List.filter_cons, List.filter_cons]
    rcases List.mem_cons.mp hm with rfl | hm
    · rw [if_neg hp, if_pos hq, List.length_cons]
      have := flt_le h l
      omega
    · have ih := flt_lt h hq hp l hm
      by_cases hpx : P x = true
      · rw [if_pos hpx, if_pos (h x hpx), List.length_cons, List.length_cons]; omega
      · rw [if_neg hpx]
        split
        · rw [List.length_cons]; omega
        · exact ih
theorem cntN_lt {N n : Nat} {o r r' : Int} (hn : n < N) (h1 : rk o (n : Int) < r) (h2 : r' ≤ rk o (n : Int)) : cntN N o r' < cntN N o r := by
  unfold cntN
  refine flt_lt (x0 := n) (fun x hx => ?_) ?_ ?_ _ (List.mem_range.mpr hn)
  · simp only [decide_eq_true_eq] at hx ⊢; omega
  · simp only [decide_eq_true_eq]; exact h1
  · simp only [decide_eq_true_eq]; omega
theorem cntN_top {N n : Nat} {o : Int} (hn : n < N) : cntN N o (rk o (n : Int)) < N := by
  unfold cntN
  have h := flt_lt (P := fun x => decide (rk o (x : Int) < rk o (n : Int))) (Q := fun _ => true) (x0 := n) (fun _ _ => rfl) rfl (by simp) (List.range N) (List.mem_range.mpr hn)
  rw [List.filter_eq_self.mpr (fun _ _ => rfl), List.length_range] at h
  exact h
theorem cnt_lt {o p r r' : Int} (hp : isPr p) (h1 : rk o p < r) (h2 : r' ≤ rk o p) : cntR o r' < cntR o r := by
  obtain ⟨n, rfl⟩ := Int.eq_ofNat_of_zero_le hp.1
  have hn : n < 32768 := by have := hp.2; omega
  unfold cntR
  exact cntN_lt hn h1 h2
theorem cnt_top {o p : Int} (hp : isPr p) : cntR o (rk o p) < 32768 := by
  obtain ⟨n, rfl⟩ := Int.eq_ofNat_of_zero_le hp.1
  have hn : n < 32768 := by have := hp.2; omega
  unfold cntR
  exact cntN_top hn
theorem rk_add {o p f : Int} (hp : isPr p) (hf : isPr f) (h0 : ex p 0 + ex f 0 ≤ 31) (h1 : ex p 1 + ex f 1 ≤ 31) (h2 : ex p 2 + ex f 2 ≤ 31) : rk o (p + f) = rk o p + rk o f := by
  obtain ⟨-, e0, e1, e2⟩ := pr_add hp hf h0 h1 h2
  have d : dg (p + f) = dg p + dg f := by unfold dg; rw [e0, e1, e2]; omega
  have r2 : ∀ x, rk 2 x = dg x * 1024 - ex x 2 * 32 - ex x 1 := fun x => rfl
  by_cases ho : o = 0
  · subst ho; rfl
  · by_cases h2 : o = 2
    · subst h2
      rw [r2, r2, r2, d, e1, e2]
      omega
    · unfold rk
      rw [if_neg ho, if_neg h2, if_neg ho, if_neg h2, if_neg ho, if_neg h2, d]
      omega
theorem cns_mem {s q : Int} {R : Po} {t : Int × Int} (h : t ∈ cns s q R) : t = (s, q) ∨ t ∈ R := by
  unfold cns at h
  split at h
  · exact Or.inr h
  · exact List.mem_cons.mp h
theorem mrg_mem (o n f : Int) (A B : Po) : ∀ t ∈ mrg o n f A B, (∃ a ∈ A, t.2 = a.2) ∨ ∃ b ∈ B, t.2 = b.2 + f := by
  induction A, B using mrg.induct (o := o) (f := f) with
  | case1 => rw [mrg]; intro t ht; cases ht
  | case2 a A ih =>
    rw [mrg]
    intro t ht
    rcases List.mem_cons.mp ht with rfl | h
    · exact Or.inl ⟨_, List.mem_cons_self, rfl⟩
    · rcases ih t h with ⟨c, h1, h2⟩ | ⟨c, h1, h2⟩
      · exact Or.inl ⟨c, List.mem_cons_of_mem _ h1, h2⟩
      · exact Or.inr ⟨c, h1, h2⟩
  | case3 b B ih =>
    rw [mrg]
    intro t ht
    rcases cns_mem ht with rfl | h
    · exact Or.inr ⟨b, List.mem_cons_self, rfl⟩
    · rcases ih t h with ⟨c, h1, h2⟩ | ⟨c, h1, h2⟩
      · exact Or.inl ⟨c, h1, h2⟩
      · exact Or.inr ⟨c, List.mem_cons_of_mem _ h1, h2⟩
  | case4 a A b B h ih =>
    rw [mrg, if_pos h]
    intro t ht
    rcases List.mem_cons.mp ht with rfl | h
    · exact Or.inl ⟨_, List.mem_cons_self, rfl⟩
    · rcases ih t h with ⟨c, h1, h2⟩ | ⟨c, h1, h2⟩
      · exact Or.inl ⟨c, List.mem_cons_of_mem _ h1, h2⟩
      · exact Or.inr ⟨c, h1, h2⟩
  | case5 a A b B h h2 ih =>
    rw [mrg, if_neg h, if_pos h2]
    intro t ht
    rcases cns_mem ht with rfl | h
    · exact Or.inr ⟨b, List.mem_cons_self, rfl⟩
    · rcases ih t h with ⟨c, h1, h2⟩ | ⟨c, h1, h2⟩
      · exact Or.inl ⟨c, h1, h2⟩
      · exact Or.inr ⟨c, List.mem_cons_of_mem _ h1, h2⟩
  | case6 a A b B h h2 ih =>
    rw [mrg, if_neg h, if_neg h2]
    intro t ht
    rcases cns_mem ht with rfl | h
    · exact Or.inl ⟨a, List.mem_cons_self, rfl⟩
    · rcases ih t h with ⟨c, h1, h2⟩ | ⟨c, h1, h2⟩
      · exact Or.inl ⟨c, List.mem_cons_of_mem _ h1, h2⟩
      · exact Or.inr ⟨c, List.mem_cons_of_mem _ h1, h2⟩
/-- a multiple of a sorted list -/
def srtF (o f : Int) (B : Po) : Prop := B.Pairwise (fun a b => rk o (b.2 + f) < rk o (a.2 + f))
theorem cns_srt {o s q : Int} {R : Po} (h : srt o R) (hlt : ∀ t ∈ R, rk o t.2 < rk o q) : srt o (cns s q R) := by
  unfold cns
  split
  · exact h
  · exact List.pairwise_cons.mpr ⟨hlt, h⟩
theorem mrg_srt (o n f : Int) (A B : Po) (hA : srt o A) (hB : srtF o f B) : srt o (mrg o n f A B) := by
  induction A, B using mrg.induct (o := o) (f := f) with
  | case1 => rw [mrg]; exact List.Pairwise.nil
  | case2 a A ih =>
    rw [mrg]
    obtain ⟨a1, a2⟩ := List.pairwise_cons.mp hA
    refine List.pairwise_cons.mpr ⟨fun t ht => ?_, ih a2 hB⟩
    rcases mrg_mem o n f A [] t ht with ⟨c, h1, h2⟩ | ⟨c, h1, h2⟩
    · rw [h2]; exact a1 c h1
    · cases h1
  | case3 b B ih =>
    rw [mrg]
    obtain ⟨b1, b2⟩ := List.pairwise_cons.mp hB
    refine cns_srt (ih hA b2) (fun t ht => ?_)
    rcases mrg_mem o n f [] B t ht with ⟨c, h1, h2⟩ | ⟨c, h1, h2⟩
    · cases h1
    · rw [h2]; exact b1 c h1
  | case4 a A b B h ih =>
    rw [mrg, if_pos h]
    obtain ⟨a1, a2⟩ := List.pairwise_cons.mp hA
    obtain ⟨b1, b2⟩ := List.pairwise_cons.mp hB
    refine List.pairwise_cons.mpr ⟨fun t ht => ?_, ih a2 hB⟩
    rcases mrg_mem o n f A (b :: B) t ht with ⟨c, h1, h2⟩ | ⟨c, h1, h2⟩
    · rw [h2]; exact a1 c h1
    · rw [h2]
      rcases List.mem_cons.mp h1 with rfl | h1
      · exact h
      · have := b1 c h1; omega
  | case5 a A b B h h2 ih =>
    rw [mrg, if_neg h, if_pos h2]
    obtain ⟨a1, a2⟩ := List.pairwise_cons.mp hA
    obtain ⟨b1, b2⟩ := List.pairwise_cons.mp hB
    refine cns_srt (ih hA b2) (fun t ht => ?_)
    rcases mrg_mem o n f (a :: A) B t ht with ⟨c, h3, h4⟩ | ⟨c, h3, h4⟩
    · rw [h4]
      rcases List.mem_cons.mp h3 with rfl | h3
      · exact h2
      · have := a1 c h3; omega
    · rw [h4]; exact b1 c h3
  | case6 a A b B h h2 ih =>
    rw [mrg, if_neg h, if_neg h2]
    obtain ⟨a1, a2⟩ := List.pairwise_cons.mp hA
    obtain ⟨b1, b2⟩ := List.pairwise_cons.mp hB
    refine cns_srt (ih a2 b2) (fun t ht => ?_)
    rcases mrg_mem o n f A B t ht with ⟨c, h3, h4⟩ | ⟨c, h3, h4⟩
    · rw [h4]; exact a1 c h3
    · rw [h4]; have := b1 c h3; omega
/-- a multiple that may be is sorted as the list is -/
theorem srt_F {o f : Int} {B : Po} (ok : okP B) (hf : isPr f) (hb : brs B f = true) (h : srt o B) : srtF o f B := by
  have hall := List.all_eq_true.mp hb
  unfold srtF
  refine List.Pairwise.imp_of_mem (fun {a b} ha hb9 h9 => ?_) h
  have ha1 := hall a ha
  have hb1 := hall b hb9
  simp only [brT, decide_eq_true_eq] at ha1 hb1
  rw [rk_add (ok a ha).2 hf ha1.1 ha1.2.1 ha1.2.2, rk_add (ok b hb9).2 hf hb1.1 hb1.2.1 hb1.2.2]
  omega
