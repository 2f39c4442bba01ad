/-! readsAll -/
theorem rdL_nil (o : Int) : ∀ (B : List Int) (i : Nat) (s : RS) (L : Po), (rdL o B i s L).1 ≠ -1 → (rdL o B i s L).2 = []
  | [], i, s, L, h => by
    rw [rdL] at h ⊢
    split
    · rfl
    · rename_i h1
      rw [if_neg h1] at h
      split
      · rename_i h2
        rw [if_pos h2] at h
        exact absurd rfl h
      · rename_i h2
        rw [if_neg h2] at h
        exact absurd rfl h
  | b :: B, i, s, L, h => by
    rw [rdL] at h ⊢
    cases hn : nxR b s with
    | none => rfl
    | some t =>
      rw [hn] at h
      simp only at h ⊢
      split
      · rename_i h1
        rw [if_pos h1] at h
        exact rdL_nil o B _ _ _ h
      · rename_i h1
        rw [if_neg h1] at h
        exact rdL_nil o B _ _ _ h
set_option maxRecDepth 100000 in
set_option maxHeartbeats 4000000 in
theorem e_readsAll (X : CX) (M : Mem) (T : Tx) (a : Int) (hs : Shp M) (hT : MX M T) (ha : -1 ≤ a ∧ a ≤ 2) : Ev X y_m_readsAll (0, 0) [aR (some 521), aI a] M (AE M T (if a = -1 then ordT T else a)) := by
  obtain ⟨t7, r7⟩ := hT 7 (by omega)
  have hob : 0 ≤ (if a = -1 then ordT T else a) ∧ (if a = -1 then ordT T else a) ≤ 2 := by
    have := orN_b (T 7)
    split
    · exact this
    · omega
  refine Ev_of mcd_119 mok_119 (by decide) rfl (Nat.le_of_ble_eq_true rfl) ?_
  rw [show yl 119 = 3 from rfl]
  refine G_w (pfb_ok X) LK_119 (fun i => false) 10 _ _ _ _ ?_
  simp only [f_0, f_s, f_iconst, f_bipush, f_sipush, f_ldc, f_ldc_w, f_ldc2_w, f_ldI, f_ldL, f_ldA, f_iload, f_iload_n, f_lload, f_lload_n, f_aload, f_aload_n, f_istore, f_istore_n, f_lstore, f_lstore_n, f_astore, f_astore_n, f_iinc, f_icI, f_iadd, f_isub, f_imul, f_idiv, f_irem, f_iand, f_ior, f_ixor, f_ishl, f_ishr, f_iushr, f_i2l, f_i2b, f_i2s, f_ladd, f_lmul, f_lcmp, f_dupI, f_dupR, f_dup2, f_pop, f_goto, f_if, f_icmp, f_tab, f_ts0, f_ts1, f_getI, f_getZ, f_getR, f_putI, f_putR, f_gets, f_iald, f_bald, f_aald, f_iast, f_bast, f_aast, f_alen, f_new, f_newa, f_anew, f_virt, f_stat0, f_stat1, f_spec0, f_spec1, f_spec9, f_copy, f_max, f_min, f_cV1, f_cV0, f_cS1, f_cS0, f_iret, f_lret, f_vret, f_kG, pf0, cIg, inR, lget, lset, lset2, clr, entL, cnd, psh, catS, tsw, List.take_succ_cons, List.take_zero, List.drop_succ_cons, List.drop_zero, List.reverse_cons, List.reverse_nil, List.nil_append, List.cons_append, List.length_cons, List.length_nil, List.replicate_succ, List.replicate_zero, Nat.reduceAdd, Nat.reduceSub, Nat.reduceLeDiff, Nat.reduceLT, Nat.reduceEqDiff, Nat.reduceMul, Nat.zero_add, Nat.add_zero, Nat.le_refl, Nat.zero_le, Int.reduceEq, Int.reduceToNat, Int.toNat_natCast, Int.reduceNeg, Int.reduceAdd, Int.reduceSub, Int.reduceMul, Int.reduceLT, Int.reduceLE, Int.reduceDiv, Int.reduceMod, Bool.false_eq_true, ↓reduceIte, true_and, and_true, implies_true, forall_const, true_or, or_true, or_false, false_or, not_true_eq_false, not_false_eq_true, false_implies, Prod.mk.injEq, Fin.val_zero, Fin.val_one, Fin.isValue, Fin.reduceFinMk, Fin.val_two, mR_uI, mK_uI, mN_uI, mI_uR, mK_uR, mN_uR, mR_uC, mK_uC, mN_uC, Option.some.injEq, Sum.inl.injEq, Sum.inr.injEq, decide_true, decide_false, Bool.or_false, Bool.false_or, Bool.or_true, Bool.true_or, Nat.reduceBEq, beq_self_eq_true, show tb 119 = tb_119 from rfl, tb_119, tb_119_0, tb_119_1, pfb, pfb_b, pfb_c, pfb_v, pfa_b, pfa_c, pfa_v, hs.mk521, hs.mr5]
  refine Ev_mono (e_readsOrder X M (T 7) hs t7 (by unfold roomT at r7; rw [if_pos rfl] at r7; exact r7)) (fun r M1 hr _ _ => ?_)
  obtain ⟨rfl, w1, w2⟩ := hr
  have hs1 := w2.shp hs
  obtain ⟨o, ho⟩ : ∃ o, o = (if a = -1 then ordT T else a) := ⟨_, rfl⟩
  rw [← ho] at hob ⊢
  have loop : ∀ (d t : Nat) (M2 : Mem), t + d = 7 → Fr M M2 (fun a => a < 7) (fun k => k = 0 ∨ k = 6 ∨ k = 8 ∨ k = 9) (fun a => a = 526) → mI M2 521 0 = o → mI M2 521 6 = ordT T → mI M2 526 7 = fltT T 7 → (∀ u, u < t → mI M2 526 u = fltT T u ∧ TP M2 u (rdF o (T u)).2) → G X y_m_readsAll (mZ M, mS M, 0, 0) 17 [some (aR (some 521)), some (aI a), some (aI t)] [] M2 (AE M T o) := by
    intro d
    induction d with
    | zero =>
      intro t M2 ht hF h0 h6 h7 hu
      have ht7 : t = 7 := by omega
      subst ht7
      have hge : (7 : Int) ≤ ((7 : Nat) : Int) := Int.le_refl _
      refine G_w (pfb_ok X) LK_119 (fun i => false) 20 _ _ _ _ ?_
      simp only [f_0, f_s, f_iconst, f_bipush, f_sipush, f_ldc, f_ldc_w, f_ldc2_w, f_ldI, f_ldL, f_ldA, f_iload, f_iload_n, f_lload, f_lload_n, f_aload, f_aload_n, f_istore, f_istore_n, f_lstore, f_lstore_n, f_astore, f_astore_n, f_iinc, f_icI, f_iadd, f_isub, f_imul, f_idiv, f_irem, f_iand, f_ior, f_ixor, f_ishl, f_ishr, f_iushr, f_i2l, f_i2b, f_i2s, f_ladd, f_lmul, f_lcmp, f_dupI, f_dupR, f_dup2, f_pop, f_goto, f_if, f_icmp, f_tab, f_ts0, f_ts1, f_getI, f_getZ, f_getR, f_putI, f_putR, f_gets, f_iald, f_bald, f_aald, f_iast, f_bast, f_aast, f_alen, f_new, f_newa, f_anew, f_virt, f_stat0, f_stat1, f_spec0, f_spec1, f_spec9, f_copy, f_max, f_min, f_cV1, f_cV0, f_cS1, f_cS0, f_iret, f_lret, f_vret, f_kG, pf0, cIg, inR, lget, lset, lset2, clr, entL, cnd, psh, catS, tsw, List.take_succ_cons, List.take_zero, List.drop_succ_cons, List.drop_zero, List.reverse_cons, List.reverse_nil, List.nil_append, List.cons_append, List.length_cons, List.length_nil, List.replicate_succ, List.replicate_zero, Nat.reduceAdd, Nat.reduceSub, Nat.reduceLeDiff, Nat.reduceLT, Nat.reduceEqDiff, Nat.reduceMul, Nat.zero_add, Nat.add_zero, Nat.le_refl, Nat.zero_le, Int.reduceEq, Int.reduceToNat, Int.toNat_natCast, Int.reduceNeg, Int.reduceAdd, Int.reduceSub, Int.reduceMul, Int.reduceLT, Int.reduceLE, Int.reduceDiv, Int.reduceMod, Bool.false_eq_true, ↓reduceIte, true_and, and_true, implies_true, forall_const, true_or, or_true, or_false, false_or, not_true_eq_false, not_false_eq_true, false_implies, Prod.mk.injEq, Fin.val_zero, Fin.val_one, Fin.isValue, Fin.reduceFinMk, Fin.val_two, mR_uI, mK_uI, mN_uI, mI_uR, mK_uR, mN_uR, mR_uC, mK_uC, mN_uC, Option.some.injEq, Sum.inl.injEq, Sum.inr.injEq, decide_true, decide_false, Bool.or_false, Bool.false_or, Bool.or_true, Bool.true_or, Nat.reduceBEq, beq_self_eq_true, show tb 119 = tb_119 from rfl, tb_119, tb_119_0, tb_119_1, pfb, pfb_b, pfb_c, pfb_v, pfa_b, pfa_c, pfa_v, hge]
      refine ⟨rfl, hF, h0, h6, fun u hu9 => ?_, fun u hu9 => (hu u hu9).2⟩
      by_cases h : u = 7
      · subst h; exact h7
      · exact (hu u (by omega)).1
    | succ d ih =>
      intro t M2 ht hF h0 h6 h7 hu
      have hs2 := hF.shp hs
      have hge : ¬ (7 : Int) ≤ (t : Int) := by omega
      obtain ⟨htb, -⟩ := hT t (by omega)
      refine G_w (pfb_ok X) LK_119 (fun i => false) 20 _ _ _ _ ?_
      simp only [f_0, f_s, f_iconst, f_bipush, f_sipush, f_ldc, f_ldc_w, f_ldc2_w, f_ldI, f_ldL, f_ldA, f_iload, f_iload_n, f_lload, f_lload_n, f_aload, f_aload_n, f_istore, f_istore_n, f_lstore, f_lstore_n, f_astore, f_astore_n, f_iinc, f_icI, f_iadd, f_isub, f_imul, f_idiv, f_irem, f_iand, f_ior, f_ixor, f_ishl, f_ishr, f_iushr, f_i2l, f_i2b, f_i2s, f_ladd, f_lmul, f_lcmp, f_dupI, f_dupR, f_dup2, f_pop, f_goto, f_if, f_icmp, f_tab, f_ts0, f_ts1, f_getI, f_getZ, f_getR, f_putI, f_putR, f_gets, f_iald, f_bald, f_aald, f_iast, f_bast, f_aast, f_alen, f_new, f_newa, f_anew, f_virt, f_stat0, f_stat1, f_spec0, f_spec1, f_spec9, f_copy, f_max, f_min, f_cV1, f_cV0, f_cS1, f_cS0, f_iret, f_lret, f_vret, f_kG, pf0, cIg, inR, lget, lset, lset2, clr, entL, cnd, psh, catS, tsw, List.take_succ_cons, List.take_zero, List.drop_succ_cons, List.drop_zero, List.reverse_cons, List.reverse_nil, List.nil_append, List.cons_append, List.length_cons, List.length_nil, List.replicate_succ, List.replicate_zero, Nat.reduceAdd, Nat.reduceSub, Nat.reduceLeDiff, Nat.reduceLT, Nat.reduceEqDiff, Nat.reduceMul, Nat.zero_add, Nat.add_zero, Nat.le_refl, Nat.zero_le, Int.reduceEq, Int.reduceToNat, Int.toNat_natCast, Int.reduceNeg, Int.reduceAdd, Int.reduceSub, Int.reduceMul, Int.reduceLT, Int.reduceLE, Int.reduceDiv, Int.reduceMod, Bool.false_eq_true, ↓reduceIte, true_and, and_true, implies_true, forall_const, true_or, or_true, or_false, false_or, not_true_eq_false, not_false_eq_true, false_implies, Prod.mk.injEq, Fin.val_zero, Fin.val_one, Fin.isValue, Fin.reduceFinMk, Fin.val_two, mR_uI, mK_uI, mN_uI, mI_uR, mK_uR, mN_uR, mR_uC, mK_uC, mN_uC, Option.some.injEq, Sum.inl.injEq, Sum.inr.injEq, decide_true, decide_false, Bool.or_false, Bool.false_or, Bool.or_true, Bool.true_or, Nat.reduceBEq, beq_self_eq_true, show tb 119 = tb_119 from rfl, tb_119, tb_119_0, tb_119_1, pfb, pfb_b, pfb_c, pfb_v, pfa_b, pfa_c, pfa_v, hs2.mk521, hs2.mr5, hge]
      refine Ev_mono (e_readsText X M2 t o (T t) hs2 (htb.fr hF ⟨by omega, by omega⟩) (by omega) h0 hob) (fun r M3 hr _ _ => ?_)
      obtain ⟨rfl, x1, x2⟩ := hr
      have hs3 := x1.shp hs2
      have hflt : (rdF o (T t)).1 = fltT T t := by unfold fltT; rw [if_neg (by omega)]; exact rdF_flt _ _ _
      have hF3 := hF.tr (x1.w (fun b h => by omega) (fun b h => by omega) (fun b h => h.elim))
      have fin : ∀ v : Int, TP (uI (uI M3 526 t (rdF o (T t)).1) 523 t v) t (rdF o (T t)).2 → G X y_m_readsAll (mZ M, mS M, 0, 0) 17 [some (aR (some 521)), some (aI a), some (aI ((t : Int) + 1))] [] (uI (uI M3 526 t (rdF o (T t)).1) 523 t v) (AE M T o) := by
        intro v hTP
        have hF5 : Fr M3 (uI (uI M3 526 t (rdF o (T t)).1) 523 t v) (fun b => b = t) NN (fun b => b = 526) := Fr.us (P := fun b => b = t) ((Fr.rf M3 (fun b => b = t) NN (fun b => b = 526)).uc rfl (by omega)) rfl
        refine ih (t + 1) _ (by omega) (hF3.tr (hF5.w (fun b h => by omega) (fun b h => h.elim) (fun b h => h))) ((hF5.2.1 0 (fun h => h)).trans ((x1.2.1 0 (by omega)).trans h0)) ((hF5.2.1 6 (fun h => h)).trans ((x1.2.1 6 (by omega)).trans h6)) ?_ (fun u hu9 => ?_)
        · rw [mI_uI_ne (by omega), mI_uI_nk (by omega), x1.ne (by omega) (fun h => h) 7]; exact h7
        · by_cases h : u = t
          · subst h
            refine ⟨?_, hTP⟩
            rw [mI_uI_ne (by omega), mI_uI_eq, hflt]
          · obtain ⟨y1, y2⟩ := hu u (by omega)
            refine ⟨?_, (y2.fr x1 (by omega) (by omega)).fr hF5 (by omega) (by omega)⟩
            rw [mI_uI_ne (by omega), mI_uI_nk h, x1.ne (by omega) (fun h => h) u]; exact y1
      have e526 : mI (uI M3 526 t (rdF o (T t)).1) 526 t = (rdF o (T t)).1 := mI_uI_eq
      by_cases h1 : (rdF o (T t)).1 = -1
      · have hTP := x2 h1
        have e523 : mI (uI M3 526 t (rdF o (T t)).1) 523 t = (rdF o (T t)).2.length := (mI_uI_ne (by omega)).trans hTP.1
        have hf := fin (rdF o (T t)).2.length ⟨mI_uI_eq, hTP.2.1, fun j u hu9 => (mI_uI_ne (by omega)).trans ((mI_uI_ne (by omega)).trans (hTP.2.2 j u hu9))⟩
        rw [h1] at hf e526 e523
        rw [h1]
        simp only [f_kG, psh, Nat.reduceAdd]
        refine G_w (pfb_ok X) LK_119 (fun i => i == 17) 30 _ _ _ _ ?_
        simp only [f_0, f_s, f_iconst, f_bipush, f_sipush, f_ldc, f_ldc_w, f_ldc2_w, f_ldI, f_ldL, f_ldA, f_iload, f_iload_n, f_lload, f_lload_n, f_aload, f_aload_n, f_istore, f_istore_n, f_lstore, f_lstore_n, f_astore, f_astore_n, f_iinc, f_icI, f_iadd, f_isub, f_imul, f_idiv, f_irem, f_iand, f_ior, f_ixor, f_ishl, f_ishr, f_iushr, f_i2l, f_i2b, f_i2s, f_ladd, f_lmul, f_lcmp, f_dupI, f_dupR, f_dup2, f_pop, f_goto, f_if, f_icmp, f_tab, f_ts0, f_ts1, f_getI, f_getZ, f_getR, f_putI, f_putR, f_gets, f_iald, f_bald, f_aald, f_iast, f_bast, f_aast, f_alen, f_new, f_newa, f_anew, f_virt, f_stat0, f_stat1, f_spec0, f_spec1, f_spec9, f_copy, f_max, f_min, f_cV1, f_cV0, f_cS1, f_cS0, f_iret, f_lret, f_vret, f_kG, pf0, cIg, inR, lget, lset, lset2, clr, entL, cnd, psh, catS, tsw, List.take_succ_cons, List.take_zero, List.drop_succ_cons, List.drop_zero, List.reverse_cons, List.reverse_nil, List.nil_append, List.cons_append, List.length_cons, List.length_nil, List.replicate_succ, List.replicate_zero, Nat.reduceAdd, Nat.reduceSub, Nat.reduceLeDiff, Nat.reduceLT, Nat.reduceEqDiff, Nat.reduceMul, Nat.zero_add, Nat.add_zero, Nat.le_refl, Nat.zero_le, Int.reduceEq, Int.reduceToNat, Int.toNat_natCast, Int.reduceNeg, Int.reduceAdd, Int.reduceSub, Int.reduceMul, Int.reduceLT, Int.reduceLE, Int.reduceDiv, Int.reduceMod, Bool.false_eq_true, ↓reduceIte, true_and, and_true, implies_true, forall_const, true_or, or_true, or_false, false_or, not_true_eq_false, not_false_eq_true, false_implies, Prod.mk.injEq, Fin.val_zero, Fin.val_one, Fin.isValue, Fin.reduceFinMk, Fin.val_two, mR_uI, mK_uI, mN_uI, mI_uR, mK_uR, mN_uR, mR_uC, mK_uC, mN_uC, Option.some.injEq, Sum.inl.injEq, Sum.inr.injEq, decide_true, decide_false, Bool.or_false, Bool.false_or, Bool.or_true, Bool.true_or, Nat.reduceBEq, beq_self_eq_true, show tb 119 = tb_119 from rfl, tb_119, tb_119_0, tb_119_1, pfb, pfb_b, pfb_c, pfb_v, pfa_b, pfa_c, pfa_v, hs3.mr1, hs3.mr2, hs3.mr3, hs3.mr4, hs3.mr5, hs3.mr14, hs3.mr15, hs3.mr16, hs3.mr18, hs3.mr19, hs3.mr20, hs3.mr21, hs3.mr22, hs3.mr23, hs3.mk521, hs3.mk522, hs3.mn522, hs3.mk523, hs3.mn523, hs3.mk524, hs3.mn524, hs3.mk525, hs3.mn525, hs3.mk526, hs3.mn526, hs3.mk527, hs3.mn527, hs3.mk528, hs3.mn528, hs3.mk529, hs3.mn529, hs3.mk530, hs3.mn530, hs3.mk531, hs3.mn531, hs3.mk532, hs3.mn532, hs3.mk533, hs3.mn533, hs3.mk534, hs3.mn534, hs3.mk535, hs3.mn535, e526, e523]
        (repeat' (first | with_reducible apply And.intro | with_reducible intro _)) <;> (try omega)
        all_goals exact hf
      · have hnil := rdL_nil o (T t) 0 _ _ h1
        have hf := fin 0 ⟨mI_uI_eq.trans (by rw [show (rdF o (T t)).2 = [] from hnil]; rfl), by rw [show (rdF o (T t)).2 = [] from hnil]; simp, fun j u hu9 => by rw [show (rdF o (T t)).2 = [] from hnil] at hu9; simp at hu9⟩
        simp only [f_kG, psh, Nat.reduceAdd]
        refine G_w (pfb_ok X) LK_119 (fun i => i == 17) 30 _ _ _ _ ?_
        simp only [f_0, f_s, f_iconst, f_bipush, f_sipush, f_ldc, f_ldc_w, f_ldc2_w, f_ldI, f_ldL, f_ldA, f_iload, f_iload_n, f_lload, f_lload_n, f_aload, f_aload_n, f_istore, f_istore_n, f_lstore, f_lstore_n, f_astore, f_astore_n, f_iinc, f_icI, f_iadd, f_isub, f_imul, f_idiv, f_irem, f_iand, f_ior, f_ixor, f_ishl, f_ishr, f_iushr, f_i2l, f_i2b, f_i2s, f_ladd, f_lmul, f_lcmp, f_dupI, f_dupR, f_dup2, f_pop, f_goto, f_if, f_icmp, f_tab, f_ts0, f_ts1, f_getI, f_getZ, f_getR, f_putI, f_putR, f_gets, f_iald, f_bald, f_aald, f_iast, f_bast, f_aast, f_alen, f_new, f_newa, f_anew, f_virt, f_stat0, f_stat1, f_spec0, f_spec1, f_spec9, f_copy, f_max, f_min, f_cV1, f_cV0, f_cS1, f_cS0, f_iret, f_lret, f_vret, f_kG, pf0, cIg, inR, lget, lset, lset2, clr, entL, cnd, psh, catS, tsw, List.take_succ_cons, List.take_zero, List.drop_succ_cons, List.drop_zero, List.reverse_cons, List.reverse_nil, List.nil_append, List.cons_append, List.length_cons, List.length_nil, List.replicate_succ, List.replicate_zero, Nat.reduceAdd, Nat.reduceSub, Nat.reduceLeDiff, Nat.reduceLT, Nat.reduceEqDiff, Nat.reduceMul, Nat.zero_add, Nat.add_zero, Nat.le_refl, Nat.zero_le, Int.reduceEq, Int.reduceToNat, Int.toNat_natCast, Int.reduceNeg, Int.reduceAdd, Int.reduceSub, Int.reduceMul, Int.reduceLT, Int.reduceLE, Int.reduceDiv, Int.reduceMod, Bool.false_eq_true, ↓reduceIte, true_and, and_true, implies_true, forall_const, true_or, or_true, or_false, false_or, not_true_eq_false, not_false_eq_true, false_implies, Prod.mk.injEq, Fin.val_zero, Fin.val_one, Fin.isValue, Fin.reduceFinMk, Fin.val_two, mR_uI, mK_uI, mN_uI, mI_uR, mK_uR, mN_uR, mR_uC, mK_uC, mN_uC, Option.some.injEq, Sum.inl.injEq, Sum.inr.injEq, decide_true, decide_false, Bool.or_false, Bool.false_or, Bool.or_true, Bool.true_or, Nat.reduceBEq, beq_self_eq_true, show tb 119 = tb_119 from rfl, tb_119, tb_119_0, tb_119_1, pfb, pfb_b, pfb_c, pfb_v, pfa_b, pfa_c, pfa_v, hs3.mr1, hs3.mr2, hs3.mr3, hs3.mr4, hs3.mr5, hs3.mr14, hs3.mr15, hs3.mr16, hs3.mr18, hs3.mr19, hs3.mr20, hs3.mr21, hs3.mr22, hs3.mr23, hs3.mk521, hs3.mk522, hs3.mn522, hs3.mk523, hs3.mn523, hs3.mk524, hs3.mn524, hs3.mk525, hs3.mn525, hs3.mk526, hs3.mn526, hs3.mk527, hs3.mn527, hs3.mk528, hs3.mn528, hs3.mk529, hs3.mn529, hs3.mk530, hs3.mn530, hs3.mk531, hs3.mn531, hs3.mk532, hs3.mn532, hs3.mk533, hs3.mn533, hs3.mk534, hs3.mn534, hs3.mk535, hs3.mn535, e526, h1]
        (repeat' (first | with_reducible apply And.intro | with_reducible intro _)) <;> (try omega)
        all_goals exact hf
  have hFa : Fr M1 (uI M1 526 7 (orX (T 7))) NN NN (fun b => b = 526) := (Fr.rf M1 NN NN (fun b => b = 526)).uc rfl (by omega)
  have g6 : mI (uI M1 526 7 (orX (T 7))) 521 6 = ordT T := (mI_uI_ne (by omega)).trans w1
  have start : ∀ v : Int, v = o → G X y_m_readsAll (mZ M, mS M, 0, 0) 17 [some (aR (some 521)), some (aI a), some (aI 0)] [] (uI (uI M1 526 7 (orX (T 7))) 521 0 v) (AE M T o) := by
    intro v hv
    have hF2 : Fr M1 (uI (uI M1 526 7 (orX (T 7))) 521 0 v) NN (fun k => k = 0) (fun b => b = 526) := Fr.uf (F := fun k => k = 0) (hFa.w (fun _ h => h) (fun _ h => h.elim) (fun _ h => h)) rfl
    exact loop 7 0 _ rfl ((w2.w (fun b h => h.elim) (fun b h => by omega) (fun b h => h.elim)).tr (hF2.w (fun b h => h.elim) (fun b h => by omega) (fun b h => h))) (by rw [mI_uI_eq]; exact hv) ((mI_uI_nk (by omega)).trans g6) (by rw [mI_uI_ne (by omega), mI_uI_eq]; rfl) (fun u hu => by omega)
  by_cases h1 : a = -1
  · rw [if_pos h1] at ho
    have hst := start (ordT T) ho.symm
    rw [h1] at hst
    simp only [f_kG, psh, Nat.reduceAdd]
    refine G_w (pfb_ok X) LK_119 (fun i => i == 17) 20 _ _ _ _ ?_
    simp only [f_0, f_s, f_iconst, f_bipush, f_sipush, f_ldc, f_ldc_w, f_ldc2_w, f_ldI, f_ldL, f_ldA, f_iload, f_iload_n, f_lload, f_lload_n, f_aload, f_aload_n, f_istore, f_istore_n, f_lstore, f_lstore_n, f_astore, f_astore_n, f_iinc, f_icI, f_iadd, f_isub, f_imul, f_idiv, f_irem, f_iand, f_ior, f_ixor, f_ishl, f_ishr, f_iushr, f_i2l, f_i2b, f_i2s, f_ladd, f_lmul, f_lcmp, f_dupI, f_dupR, f_dup2, f_pop, f_goto, f_if, f_icmp, f_tab, f_ts0, f_ts1, f_getI, f_getZ, f_getR, f_putI, f_putR, f_gets, f_iald, f_bald, f_aald, f_iast, f_bast, f_aast, f_alen, f_new, f_newa, f_anew, f_virt, f_stat0, f_stat1, f_spec0, f_spec1, f_spec9, f_copy, f_max, f_min, f_cV1, f_cV0, f_cS1, f_cS0, f_iret, f_lret, f_vret, f_kG, pf0, cIg, inR, lget, lset, lset2, clr, entL, cnd, psh, catS, tsw, List.take_succ_cons, List.take_zero, List.drop_succ_cons, List.drop_zero, List.reverse_cons, List.reverse_nil, List.nil_append, List.cons_append, List.length_cons, List.length_nil, List.replicate_succ, List.replicate_zero, Nat.reduceAdd, Nat.reduceSub, Nat.reduceLeDiff, Nat.reduceLT, Nat.reduceEqDiff, Nat.reduceMul, Nat.zero_add, Nat.add_zero, Nat.le_refl, Nat.zero_le, Int.reduceEq, Int.reduceToNat, Int.toNat_natCast, Int.reduceNeg, Int.reduceAdd, Int.reduceSub, Int.reduceMul, Int.reduceLT, Int.reduceLE, Int.reduceDiv, Int.reduceMod, Bool.false_eq_true, ↓reduceIte, true_and, and_true, implies_true, forall_const, true_or, or_true, or_false, false_or, not_true_eq_false, not_false_eq_true, false_implies, Prod.mk.injEq, Fin.val_zero, Fin.val_one, Fin.isValue, Fin.reduceFinMk, Fin.val_two, mR_uI, mK_uI, mN_uI, mI_uR, mK_uR, mN_uR, mR_uC, mK_uC, mN_uC, Option.some.injEq, Sum.inl.injEq, Sum.inr.injEq, decide_true, decide_false, Bool.or_false, Bool.false_or, Bool.or_true, Bool.true_or, Nat.reduceBEq, beq_self_eq_true, show tb 119 = tb_119 from rfl, tb_119, tb_119_0, tb_119_1, pfb, pfb_b, pfb_c, pfb_v, pfa_b, pfa_c, pfa_v, hs1.mr1, hs1.mr2, hs1.mr3, hs1.mr4, hs1.mr5, hs1.mr14, hs1.mr15, hs1.mr16, hs1.mr18, hs1.mr19, hs1.mr20, hs1.mr21, hs1.mr22, hs1.mr23, hs1.mk521, hs1.mk522, hs1.mn522, hs1.mk523, hs1.mn523, hs1.mk524, hs1.mn524, hs1.mk525, hs1.mn525, hs1.mk526, hs1.mn526, hs1.mk527, hs1.mn527, hs1.mk528, hs1.mn528, hs1.mk529, hs1.mn529, hs1.mk530, hs1.mn530, hs1.mk531, hs1.mn531, hs1.mk532, hs1.mn532, hs1.mk533, hs1.mn533, hs1.mk534, hs1.mn534, hs1.mk535, hs1.mn535, g6, h1]
    (repeat' (first | with_reducible apply And.intro | with_reducible intro _)) <;> (try omega)
    all_goals exact hst
  · rw [if_neg h1] at ho
    have hst := start a ho.symm
    simp only [f_kG, psh, Nat.reduceAdd]
    refine G_w (pfb_ok X) LK_119 (fun i => i == 17) 20 _ _ _ _ ?_
    simp only [f_0, f_s, f_iconst, f_bipush, f_sipush, f_ldc, f_ldc_w, f_ldc2_w, f_ldI, f_ldL, f_ldA, f_iload, f_iload_n, f_lload, f_lload_n, f_aload, f_aload_n, f_istore, f_istore_n, f_lstore, f_lstore_n, f_astore, f_astore_n, f_iinc, f_icI, f_iadd, f_isub, f_imul, f_idiv, f_irem, f_iand, f_ior, f_ixor, f_ishl, f_ishr, f_iushr, f_i2l, f_i2b, f_i2s, f_ladd, f_lmul, f_lcmp, f_dupI, f_dupR, f_dup2, f_pop, f_goto, f_if, f_icmp, f_tab, f_ts0, f_ts1, f_getI, f_getZ, f_getR, f_putI, f_putR, f_gets, f_iald, f_bald, f_aald, f_iast, f_bast, f_aast, f_alen, f_new, f_newa, f_anew, f_virt, f_stat0, f_stat1, f_spec0, f_spec1, f_spec9, f_copy, f_max, f_min, f_cV1, f_cV0, f_cS1, f_cS0, f_iret, f_lret, f_vret, f_kG, pf0, cIg, inR, lget, lset, lset2, clr, entL, cnd, psh, catS, tsw, List.take_succ_cons, List.take_zero, List.drop_succ_cons, List.drop_zero, List.reverse_cons, List.reverse_nil, List.nil_append, List.cons_append, List.length_cons, List.length_nil, List.replicate_succ, List.replicate_zero, Nat.reduceAdd, Nat.reduceSub, Nat.reduceLeDiff, Nat.reduceLT, Nat.reduceEqDiff, Nat.reduceMul, Nat.zero_add, Nat.add_zero, Nat.le_refl, Nat.zero_le, Int.reduceEq, Int.reduceToNat, Int.toNat_natCast, Int.reduceNeg, Int.reduceAdd, Int.reduceSub, Int.reduceMul, Int.reduceLT, Int.reduceLE, Int.reduceDiv, Int.reduceMod, Bool.false_eq_true, ↓reduceIte, true_and, and_true, implies_true, forall_const, true_or, or_true, or_false, false_or, not_true_eq_false, not_false_eq_true, false_implies, Prod.mk.injEq, Fin.val_zero, Fin.val_one, Fin.isValue, Fin.reduceFinMk, Fin.val_two, mR_uI, mK_uI, mN_uI, mI_uR, mK_uR, mN_uR, mR_uC, mK_uC, mN_uC, Option.some.injEq, Sum.inl.injEq, Sum.inr.injEq, decide_true, decide_false, Bool.or_false, Bool.false_or, Bool.or_true, Bool.true_or, Nat.reduceBEq, beq_self_eq_true, show tb 119 = tb_119 from rfl, tb_119, tb_119_0, tb_119_1, pfb, pfb_b, pfb_c, pfb_v, pfa_b, pfa_c, pfa_v, hs1.mr1, hs1.mr2, hs1.mr3, hs1.mr4, hs1.mr5, hs1.mr14, hs1.mr15, hs1.mr16, hs1.mr18, hs1.mr19, hs1.mr20, hs1.mr21, hs1.mr22, hs1.mr23, hs1.mk521, hs1.mk522, hs1.mn522, hs1.mk523, hs1.mn523, hs1.mk524, hs1.mn524, hs1.mk525, hs1.mn525, hs1.mk526, hs1.mn526, hs1.mk527, hs1.mn527, hs1.mk528, hs1.mn528, hs1.mk529, hs1.mn529, hs1.mk530, hs1.mn530, hs1.mk531, hs1.mn531, hs1.mk532, hs1.mn532, hs1.mk533, hs1.mn533, hs1.mk534, hs1.mn534, hs1.mk535, hs1.mn535, h1]
    (repeat' (first | with_reducible apply And.intro | with_reducible intro _)) <;> (try omega)
    all_goals exact hst
