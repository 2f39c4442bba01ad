/-! takeAway whole, reduce -/
theorem pr_add {a f : Int} (ha : isPr a) (hf : isPr f) (h0 : ex a 0 + ex f 0 ≤ 31) (h1 : ex a 1 + ex f 1 ≤ 31) (h2 : ex a 2 + ex f 2 ≤ 31) : isPr (a + f) ∧ ex (a + f) 0 = ex a 0 + ex f 0 ∧ ex (a + f) 1 = ex a 1 + ex f 1 ∧ ex (a + f) 2 = ex a 2 + ex f 2 := by
  have da := pr_dec ha; have df := pr_dec hf
  have a0 := ex_b a 0; have a1 := ex_b a 1; have a2 := ex_b a 2; have f0 := ex_b f 0; have f1 := ex_b f 1; have f2 := ex_b f 2
  have e0 : ex (a + f) 0 = (a + f) / 1024 % 32 := rfl
  have e1 : ex (a + f) 1 = (a + f) / 32 % 32 := rfl
  have e2 : ex (a + f) 2 = (a + f) % 32 := rfl
  rw [e0, e1, e2]
  unfold isPr
  omega
theorem brs_pr {B : Po} {f : Int} (ok : okP B) (hf : isPr f) (h : brs B f = true) : ∀ t ∈ B, isPr (t.2 + f) := by
  intro t ht
  have h1 := List.all_eq_true.mp h t ht
  simp only [brT, decide_eq_true_eq] at h1
  exact (pr_add (ok t ht).2 hf h1.1 h1.2.1 h1.2.2).1
/-- a completion's own cells -/
def CA (M : Mem) (c : Nat) : Prop := mK M c = 5 ∧ mR M c 0 = some (c + 1) ∧ mR M c 3 = some 59 ∧ mR M c 5 = some (c + 75) ∧ mR M c 6 = some (c + 78) ∧ mR M c 7 = some (c + 79) ∧ (mK M (c + 78) = 20 ∧ mN M (c + 78) = 60) ∧ (mK M (c + 79) = 20 ∧ mN M (c + 79) = 60)
def far (c p : Nat) : Prop := p + 1 ≠ c + 78 ∧ p + 1 ≠ c + 79 ∧ p + 2 ≠ c + 78 ∧ p + 2 ≠ c + 79 ∧ p ≠ c + 78 ∧ p ≠ c + 79
set_option maxRecDepth 100000 in
set_option maxHeartbeats 4000000 in
theorem e_takeAway (X : CX) (M : Mem) (c p m s : Nat) (o : Int) (L B : Po) (t : Int × Int) (hE : Ext M) (hc : CA M c) (ho : mI M c 4 = o) (hp : PA M p) (hm : PA M m) (hd1 : far c p) (hd2 : far c m) (hL : PL M p L) (hB : PL M m B) (okL : okP L) (okB : okP B) (hBn : B ≠ []) (ht : L[s]? = some t) (hf : isPr (t.2 - hd B)) : Ev X y_Completion_takeAway (0, 0) [aR (some c), aR (some p), aI s, aR (some m)] M (TK M p c s o (31 - t.1) (t.2 - hd B) L B) := by
  obtain ⟨c1, c2, c3, c4, c5, c6, c7, c8⟩ := hc
  have hs : s < L.length := (List.getElem?_eq_some_iff.mp ht).1
  obtain ⟨y1, y2⟩ := hL.2.2 s t ht
  have hh := hd_of hB hBn
  have okt := okL t (List.mem_of_getElem? ht)
  have hp0 := hp
  have hm0 := hm
  have l2 := hL.2.1
  obtain ⟨p1, p2, p3, p4, p5, p6, p7⟩ := hp
  obtain ⟨m1, m2, m3, m4, m5, m6, m7⟩ := hm
  have hfi := hf
  unfold isPr at hfi
  have okt1 := okt.1
  refine Ev_of mcd_52 mok_52 (by decide) rfl (Nat.le_of_ble_eq_true rfl) ?_
  rw [show yl 52 = 12 from rfl]
  refine G_w (pfb_ok X) LK_52 (fun i => i == 29) 16 _ _ _ _ ?_
  simp only [f_0, f_s, f_iconst, f_bipush, f_sipush, f_ldc, f_ldc_w, f_ldc2_w, f_ldI, f_ldL, f_ldA, f_iload, f_iload_n, f_lload, f_lload_n, f_aload, f_aload_n, f_istore, f_istore_n, f_lstore, f_lstore_n, f_astore, f_astore_n, f_iinc, f_icI, f_iadd, f_isub, f_imul, f_idiv, f_irem, f_iand, f_ior, f_ixor, f_ishl, f_ishr, f_iushr, f_i2l, f_i2b, f_i2s, f_ladd, f_lmul, f_lcmp, f_dupI, f_dupR, f_dup2, f_pop, f_goto, f_if, f_icmp, f_tab, f_ts0, f_ts1, f_getI, f_getZ, f_getR, f_putI, f_putR, f_gets, f_iald, f_bald, f_aald, f_iast, f_bast, f_aast, f_alen, f_new, f_newa, f_anew, f_virt, f_stat0, f_stat1, f_spec0, f_spec1, f_spec9, f_copy, f_max, f_min, f_cV1, f_cV0, f_cS1, f_cS0, f_iret, f_lret, f_vret, f_kG, pf0, cIg, inR, lget, lset, lset2, clr, entL, cnd, psh, catS, tsw, List.take_succ_cons, List.take_zero, List.drop_succ_cons, List.drop_zero, List.reverse_cons, List.reverse_nil, List.nil_append, List.cons_append, List.length_cons, List.length_nil, List.replicate_succ, List.replicate_zero, Nat.reduceAdd, Nat.reduceSub, Nat.reduceLeDiff, Nat.reduceLT, Nat.reduceEqDiff, Nat.reduceMul, Nat.zero_add, Nat.add_zero, Nat.le_refl, Nat.zero_le, Int.reduceEq, Int.reduceToNat, Int.toNat_natCast, Int.reduceNeg, Int.reduceAdd, Int.reduceSub, Int.reduceMul, Int.reduceLT, Int.reduceLE, Int.reduceDiv, Int.reduceMod, Bool.false_eq_true, ↓reduceIte, true_and, and_true, implies_true, forall_const, true_or, or_true, or_false, false_or, not_true_eq_false, not_false_eq_true, false_implies, Prod.mk.injEq, Fin.val_zero, Fin.val_one, Fin.isValue, Fin.reduceFinMk, Fin.val_two, mR_uI, mK_uI, mN_uI, mI_uR, mK_uR, mN_uR, mR_uC, mK_uC, mN_uC, Option.some.injEq, Sum.inl.injEq, Sum.inr.injEq, decide_true, decide_false, Bool.or_false, Bool.false_or, Bool.or_true, Bool.true_or, Nat.reduceBEq, beq_self_eq_true, show tb 52 = tb_52 from rfl, tb_52, tb_52_0, tb_52_1, tb_52_2, tb_52_3, tb_52_4, pfb, pfb_b, pfb_c, pfb_v, pfa_b, pfa_c, pfa_v, p1, p3, p5, p7, m1, m3, m5, m7, y2, hh]
  refine ⟨by omega, by omega, by omega, Ev_mono (e_bears X M m _ B hE hm0 hB okB hf) (fun r M' hr _ _ => ?_)⟩
  obtain ⟨rfl, rfl⟩ := hr
  by_cases hbr : brs B (t.2 - hd B) = true
  · simp only [if_pos hbr]
    simp only [f_kG, psh, Nat.reduceAdd]
    refine G_w (pfb_ok X) LK_52 (fun i => i == 29) 30 _ _ _ _ ?_
    simp only [f_0, f_s, f_iconst, f_bipush, f_sipush, f_ldc, f_ldc_w, f_ldc2_w, f_ldI, f_ldL, f_ldA, f_iload, f_iload_n, f_lload, f_lload_n, f_aload, f_aload_n, f_istore, f_istore_n, f_lstore, f_lstore_n, f_astore, f_astore_n, f_iinc, f_icI, f_iadd, f_isub, f_imul, f_idiv, f_irem, f_iand, f_ior, f_ixor, f_ishl, f_ishr, f_iushr, f_i2l, f_i2b, f_i2s, f_ladd, f_lmul, f_lcmp, f_dupI, f_dupR, f_dup2, f_pop, f_goto, f_if, f_icmp, f_tab, f_ts0, f_ts1, f_getI, f_getZ, f_getR, f_putI, f_putR, f_gets, f_iald, f_bald, f_aald, f_iast, f_bast, f_aast, f_alen, f_new, f_newa, f_anew, f_virt, f_stat0, f_stat1, f_spec0, f_spec1, f_spec9, f_copy, f_max, f_min, f_cV1, f_cV0, f_cS1, f_cS0, f_iret, f_lret, f_vret, f_kG, pf0, cIg, inR, lget, lset, lset2, clr, entL, cnd, psh, catS, tsw, List.take_succ_cons, List.take_zero, List.drop_succ_cons, List.drop_zero, List.reverse_cons, List.reverse_nil, List.nil_append, List.cons_append, List.length_cons, List.length_nil, List.replicate_succ, List.replicate_zero, Nat.reduceAdd, Nat.reduceSub, Nat.reduceLeDiff, Nat.reduceLT, Nat.reduceEqDiff, Nat.reduceMul, Nat.zero_add, Nat.add_zero, Nat.le_refl, Nat.zero_le, Int.reduceEq, Int.reduceToNat, Int.toNat_natCast, Int.reduceNeg, Int.reduceAdd, Int.reduceSub, Int.reduceMul, Int.reduceLT, Int.reduceLE, Int.reduceDiv, Int.reduceMod, Bool.false_eq_true, ↓reduceIte, true_and, and_true, implies_true, forall_const, true_or, or_true, or_false, false_or, not_true_eq_false, not_false_eq_true, false_implies, Prod.mk.injEq, Fin.val_zero, Fin.val_one, Fin.isValue, Fin.reduceFinMk, Fin.val_two, mR_uI, mK_uI, mN_uI, mI_uR, mK_uR, mN_uR, mR_uC, mK_uC, mN_uC, Option.some.injEq, Sum.inl.injEq, Sum.inr.injEq, decide_true, decide_false, Bool.or_false, Bool.false_or, Bool.or_true, Bool.true_or, Nat.reduceBEq, beq_self_eq_true, show tb 52 = tb_52 from rfl, tb_52, tb_52_0, tb_52_1, tb_52_2, tb_52_3, tb_52_4, pfb, pfb_b, pfb_c, pfb_v, pfa_b, pfa_c, pfa_v, p1, p2, p4, p6, y1]
    (repeat' (first | with_reducible apply And.intro | with_reducible intro _)) <;> (try omega)
    have := t_loop X M' c p m s o (31 - t.1) (t.2 - hd B) L B _ rfl c1 ho c5 c6 c7 c8 hp0 hm0 hd1 hd2 hL hB okL okB (brs_pr okB hf hbr) (by omega) hf (by omega) hbr ((L.length - s) + (B.length - 0)) s 0 [] M' none none none rfl (Nat.le_refl _) (by omega) (by omega) (by simp) (Same.rf _ _) (fun k t ht => by simp at ht) rfl
    exact this
  · simp only [if_neg hbr]
    simp only [f_kG, psh, Nat.reduceAdd]
    refine G_w (pfb_ok X) LK_52 (fun i => i == 29) 10 _ _ _ _ ?_
    simp only [f_0, f_s, f_iconst, f_bipush, f_sipush, f_ldc, f_ldc_w, f_ldc2_w, f_ldI, f_ldL, f_ldA, f_iload, f_iload_n, f_lload, f_lload_n, f_aload, f_aload_n, f_istore, f_istore_n, f_lstore, f_lstore_n, f_astore, f_astore_n, f_iinc, f_icI, f_iadd, f_isub, f_imul, f_idiv, f_irem, f_iand, f_ior, f_ixor, f_ishl, f_ishr, f_iushr, f_i2l, f_i2b, f_i2s, f_ladd, f_lmul, f_lcmp, f_dupI, f_dupR, f_dup2, f_pop, f_goto, f_if, f_icmp, f_tab, f_ts0, f_ts1, f_getI, f_getZ, f_getR, f_putI, f_putR, f_gets, f_iald, f_bald, f_aald, f_iast, f_bast, f_aast, f_alen, f_new, f_newa, f_anew, f_virt, f_stat0, f_stat1, f_spec0, f_spec1, f_spec9, f_copy, f_max, f_min, f_cV1, f_cV0, f_cS1, f_cS0, f_iret, f_lret, f_vret, f_kG, pf0, cIg, inR, lget, lset, lset2, clr, entL, cnd, psh, catS, tsw, List.take_succ_cons, List.take_zero, List.drop_succ_cons, List.drop_zero, List.reverse_cons, List.reverse_nil, List.nil_append, List.cons_append, List.length_cons, List.length_nil, List.replicate_succ, List.replicate_zero, Nat.reduceAdd, Nat.reduceSub, Nat.reduceLeDiff, Nat.reduceLT, Nat.reduceEqDiff, Nat.reduceMul, Nat.zero_add, Nat.add_zero, Nat.le_refl, Nat.zero_le, Int.reduceEq, Int.reduceToNat, Int.toNat_natCast, Int.reduceNeg, Int.reduceAdd, Int.reduceSub, Int.reduceMul, Int.reduceLT, Int.reduceLE, Int.reduceDiv, Int.reduceMod, Bool.false_eq_true, ↓reduceIte, true_and, and_true, implies_true, forall_const, true_or, or_true, or_false, false_or, not_true_eq_false, not_false_eq_true, false_implies, Prod.mk.injEq, Fin.val_zero, Fin.val_one, Fin.isValue, Fin.reduceFinMk, Fin.val_two, mR_uI, mK_uI, mN_uI, mI_uR, mK_uR, mN_uR, mR_uC, mK_uC, mN_uC, Option.some.injEq, Sum.inl.injEq, Sum.inr.injEq, decide_true, decide_false, Bool.or_false, Bool.false_or, Bool.or_true, Bool.true_or, Nat.reduceBEq, beq_self_eq_true, show tb 52 = tb_52 from rfl, tb_52, tb_52_0, tb_52_1, tb_52_2, tb_52_3, tb_52_4, pfb, pfb_b, pfb_c, pfb_v, pfa_b, pfa_c, pfa_v]
    (repeat' (first | with_reducible apply And.intro | with_reducible intro _)) <;> (try omega)
    exact ⟨Same.rf _ _, Or.inr ⟨rfl, Or.inl (by simpa using hbr)⟩⟩
