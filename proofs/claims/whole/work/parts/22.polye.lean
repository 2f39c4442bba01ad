/-! Polynomial.add -/
theorem PL_ins {M M' : Mem} {p k : Nat} {L : Po} {n q : Int} (hL : PL M p L) (hk : k ≤ L.length) (h30 : L.length < 30) (hM : M' = uI (uI (opM M p k L.length) (p + 1) k n) (p + 2) k q) : PL M' p (L.insertIdx k (n, q)) ∧ Same M M' (T3 p) := by
  obtain ⟨l1, l2, l3⟩ := hL
  subst hM
  refine ⟨⟨?_, ?_, fun j t ht => ?_⟩, ?_⟩
  · rw [mI_uI_ne (by omega), mI_uI_ne (by omega), opM, mI_uI_eq, List.length_insertIdx, if_pos hk]
    simp
  · rw [List.length_insertIdx, if_pos hk]; omega
  · rw [List.getElem?_insertIdx] at ht
    rw [mI_uI_ne (x := p + 1) (a := p + 2) (by omega)]
    unfold opM
    simp only [mI_uI, mI_uC]
    by_cases h1 : j < k
    · rw [if_pos h1] at ht
      have := l3 j t ht
      grind
    · rw [if_neg h1] at ht
      by_cases h2 : j = k
      · rw [if_pos h2, if_pos (by omega)] at ht
        cases ht
        grind
      · rw [if_neg h2] at ht
        have hj : j - 1 < L.length := (List.getElem?_eq_some_iff.mp ht).1
        have := l3 (j - 1) t ht
        have e1 : k + (j - (k + 1)) = j - 1 := by omega
        grind
  · unfold opM
    exact ((((Same.rf M (T3 p)).uC (Or.inr (Or.inl rfl)) _ _ _ _).uC (Or.inr (Or.inr rfl)) _ _ _ _).uI (Or.inl rfl) _ _ |>.uI (Or.inr (Or.inl rfl)) _ _).uI (Or.inr (Or.inr rfl)) _ _
theorem PL_del {M M' : Mem} {p k : Nat} {L : Po} {v : Int} (hL : PL M p L) (hk : k < L.length) (hM : M' = clM (uI M (p + 1) k v) p k L.length) : PL M' p (L.eraseIdx k) ∧ Same M M' (T3 p) := by
  obtain ⟨l1, l2, l3⟩ := hL
  subst hM
  refine ⟨⟨?_, ?_, fun j t ht => ?_⟩, ?_⟩
  · unfold clM
    rw [mI_uC_ne (by omega), mI_uC_ne (by omega), mI_uI_eq, List.length_eraseIdx, if_pos hk]
    omega
  · rw [List.length_eraseIdx, if_pos hk]; omega
  · rw [List.getElem?_eraseIdx] at ht
    unfold clM
    simp only [mI_uI, mI_uC]
    by_cases h1 : j < k
    · rw [if_pos h1] at ht
      have := l3 j t ht
      grind
    · rw [if_neg h1] at ht
      have hj : j + 1 < L.length := (List.getElem?_eq_some_iff.mp ht).1
      have := l3 (j + 1) t ht
      have e1 : k + 1 + (j - k) = j + 1 := by omega
      grind
  · unfold clM
    exact ((((Same.rf M (T3 p)).uI (Or.inr (Or.inl rfl)) _ _).uI (Or.inl rfl) _ _).uC (Or.inr (Or.inl rfl)) _ _ _ _).uC (Or.inr (Or.inr rfl)) _ _ _ _
theorem PL_set {M : Mem} {p k : Nat} {L : Po} {v q : Int} (hL : PL M p L) {t0 : Int × Int} (ht0 : L[k]? = some t0) (hq : t0.2 = q) : PL (uI M (p + 1) k v) p (L.set k (v, q)) ∧ Same M (uI M (p + 1) k v) (T3 p) := by
  obtain ⟨l1, l2, l3⟩ := hL
  refine ⟨⟨?_, by simpa using l2, fun j t ht => ?_⟩, (Same.rf M (T3 p)).uI (Or.inr (Or.inl rfl)) _ _⟩
  · rw [mI_uI_ne (by omega)]; simpa using l1
  · rw [List.getElem?_set] at ht
    rw [mI_uI, mI_uI_ne (x := p + 2) (by omega)]
    by_cases hk : k = j
    · subst hk
      rw [if_pos rfl, if_pos (List.getElem?_eq_some_iff.mp ht0).1] at ht
      cases ht
      rw [if_pos ⟨rfl, rfl⟩, ← hq]
      exact ⟨rfl, (l3 k t0 ht0).2⟩
    · rw [if_neg hk] at ht
      rw [if_neg (fun h9 => hk h9.2.symm)]
      exact l3 j t ht
set_option maxRecDepth 100000 in
set_option maxHeartbeats 4000000 in
theorem e_add (X : CX) (M : Mem) (p : Nat) (n q o : Int) (L : Po) (hp : PA M p) (hL : PL M p L) (ok : okP L) (h30 : L.length < 30) (hn : 1 ≤ n ∧ n ≤ 30) (hq : isPr q) : Ev X y_Polynomial_add (0, 0) [aR (some p), aI n, aI q, aI o] M (fun r M' => r = none ∧ PL M' p (addT o n q L) ∧ Same M M' (T3 p)) := by
  have hp0 := hp
  obtain ⟨p1, p2, p3, p4, p5, p6, p7⟩ := hp
  have hL0 := hL
  obtain ⟨l1, l2, l3⟩ := hL
  have hle := idx_le o q L
  have found : G X y_Polynomial_add (mZ M, mS M, 0, 0) 20 [some (aR (some p)), some (aI n), some (aI q), some (aI o), some (aI (idx o q L)), some (aI (rk o q))] [] M (fun r M' => r = none ∧ PL M' p (addT o n q L) ∧ Same M M' (T3 p)) := by
    have hins : L.insertIdx (idx o q L) (n, q) = addT o n q L → G X y_Polynomial_add (mZ M, mS M, 0, 0) 51 [some (aR (some p)), some (aI n), some (aI q), some (aI o), some (aI (idx o q L)), some (aI (rk o q))] [] M (fun r M' => r = none ∧ PL M' p (addT o n q L) ∧ Same M M' (T3 p)) := by
      intro he
      refine G_w (pfb_ok X) LK_36 (fun i => false) 12 _ _ _ _ ?_
      simp only [f_0, f_s, f_iconst, f_bipush, f_sipush, f_ldc, f_ldc_w, f_ldc2_w, f_ldI, f_ldL, f_ldA, f_iload, f_iload_n, f_lload, f_lload_n, f_aload, f_aload_n, f_istore, f_istore_n, f_lstore, f_lstore_n, f_astore, f_astore_n, f_iinc, f_icI, f_iadd, f_isub, f_imul, f_idiv, f_irem, f_iand, f_ior, f_ixor, f_ishl, f_ishr, f_iushr, f_i2l, f_i2b, f_i2s, f_ladd, f_lmul, f_lcmp, f_dupI, f_dupR, f_dup2, f_pop, f_goto, f_if, f_icmp, f_tab, f_ts0, f_ts1, f_getI, f_getZ, f_getR, f_putI, f_putR, f_gets, f_iald, f_bald, f_aald, f_iast, f_bast, f_aast, f_alen, f_new, f_newa, f_anew, f_virt, f_stat0, f_stat1, f_spec0, f_spec1, f_spec9, f_copy, f_max, f_min, f_cV1, f_cV0, f_cS1, f_cS0, f_iret, f_lret, f_vret, f_kG, pf0, cIg, inR, lget, lset, lset2, clr, entL, cnd, psh, catS, tsw, List.take_succ_cons, List.take_zero, List.drop_succ_cons, List.drop_zero, List.reverse_cons, List.reverse_nil, List.nil_append, List.cons_append, List.length_cons, List.length_nil, List.replicate_succ, List.replicate_zero, Nat.reduceAdd, Nat.reduceSub, Nat.reduceLeDiff, Nat.reduceLT, Nat.reduceEqDiff, Nat.reduceMul, Nat.zero_add, Nat.add_zero, Nat.le_refl, Nat.zero_le, Int.reduceEq, Int.reduceToNat, Int.toNat_natCast, Int.reduceNeg, Int.reduceAdd, Int.reduceSub, Int.reduceMul, Int.reduceLT, Int.reduceLE, Int.reduceDiv, Int.reduceMod, Bool.false_eq_true, ↓reduceIte, true_and, and_true, implies_true, forall_const, true_or, or_true, or_false, false_or, not_true_eq_false, not_false_eq_true, false_implies, Prod.mk.injEq, Fin.val_zero, Fin.val_one, Fin.isValue, Fin.reduceFinMk, Fin.val_two, mR_uI, mK_uI, mN_uI, mI_uR, mK_uR, mN_uR, mR_uC, mK_uC, mN_uC, Option.some.injEq, Sum.inl.injEq, Sum.inr.injEq, decide_true, decide_false, Bool.or_false, Bool.false_or, Bool.or_true, Bool.true_or, Nat.reduceBEq, beq_self_eq_true, show tb 36 = tb_36 from rfl, tb_36, tb_36_0, tb_36_1, tb_36_2, pfb, pfb_b, pfb_c, pfb_v, pfa_b, pfa_c, pfa_v, p1, l1]
      refine ⟨fun h => by omega, fun _ => Ev_mono (e_open X M p _ L.length hp0 l1 hle h30) (fun r M' hr hz hs => ?_)⟩
      obtain ⟨rfl, rfl⟩ := hr
      have q1 : mK (opM M p (idx o q L) L.length) p = 2 := p1
      have q2 : mK (opM M p (idx o q L) L.length) (p + 1) = 20 := p2
      have q3 : mK (opM M p (idx o q L) L.length) (p + 2) = 20 := p3
      have q4 : mN (opM M p (idx o q L) L.length) (p + 1) = 30 := p4
      have q5 : mN (opM M p (idx o q L) L.length) (p + 2) = 30 := p5
      have q6 : mR (opM M p (idx o q L) L.length) p 0 = some (p + 1) := p6
      have q7 : mR (opM M p (idx o q L) L.length) p 1 = some (p + 2) := p7
      simp only [f_kG, psh, Nat.reduceAdd]
      refine G_w (pfb_ok X) LK_36 (fun i => false) 20 _ _ _ _ ?_
      simp only [f_0, f_s, f_iconst, f_bipush, f_sipush, f_ldc, f_ldc_w, f_ldc2_w, f_ldI, f_ldL, f_ldA, f_iload, f_iload_n, f_lload, f_lload_n, f_aload, f_aload_n, f_istore, f_istore_n, f_lstore, f_lstore_n, f_astore, f_astore_n, f_iinc, f_icI, f_iadd, f_isub, f_imul, f_idiv, f_irem, f_iand, f_ior, f_ixor, f_ishl, f_ishr, f_iushr, f_i2l, f_i2b, f_i2s, f_ladd, f_lmul, f_lcmp, f_dupI, f_dupR, f_dup2, f_pop, f_goto, f_if, f_icmp, f_tab, f_ts0, f_ts1, f_getI, f_getZ, f_getR, f_putI, f_putR, f_gets, f_iald, f_bald, f_aald, f_iast, f_bast, f_aast, f_alen, f_new, f_newa, f_anew, f_virt, f_stat0, f_stat1, f_spec0, f_spec1, f_spec9, f_copy, f_max, f_min, f_cV1, f_cV0, f_cS1, f_cS0, f_iret, f_lret, f_vret, f_kG, pf0, cIg, inR, lget, lset, lset2, clr, entL, cnd, psh, catS, tsw, List.take_succ_cons, List.take_zero, List.drop_succ_cons, List.drop_zero, List.reverse_cons, List.reverse_nil, List.nil_append, List.cons_append, List.length_cons, List.length_nil, List.replicate_succ, List.replicate_zero, Nat.reduceAdd, Nat.reduceSub, Nat.reduceLeDiff, Nat.reduceLT, Nat.reduceEqDiff, Nat.reduceMul, Nat.zero_add, Nat.add_zero, Nat.le_refl, Nat.zero_le, Int.reduceEq, Int.reduceToNat, Int.toNat_natCast, Int.reduceNeg, Int.reduceAdd, Int.reduceSub, Int.reduceMul, Int.reduceLT, Int.reduceLE, Int.reduceDiv, Int.reduceMod, Bool.false_eq_true, ↓reduceIte, true_and, and_true, implies_true, forall_const, true_or, or_true, or_false, false_or, not_true_eq_false, not_false_eq_true, false_implies, Prod.mk.injEq, Fin.val_zero, Fin.val_one, Fin.isValue, Fin.reduceFinMk, Fin.val_two, mR_uI, mK_uI, mN_uI, mI_uR, mK_uR, mN_uR, mR_uC, mK_uC, mN_uC, Option.some.injEq, Sum.inl.injEq, Sum.inr.injEq, decide_true, decide_false, Bool.or_false, Bool.false_or, Bool.or_true, Bool.true_or, Nat.reduceBEq, beq_self_eq_true, show tb 36 = tb_36 from rfl, tb_36, tb_36_0, tb_36_1, tb_36_2, pfb, pfb_b, pfb_c, pfb_v, pfa_b, pfa_c, pfa_v, q1, q2, q3, q4, q5, q6, q7]
      obtain ⟨a1, a2⟩ := PL_ins hL0 hle h30 (n := n) (q := q) rfl
      rw [he] at a1
      exact ⟨⟨by omega, by omega⟩, ⟨by omega, by omega⟩, a1, a2⟩
    by_cases hlt : idx o q L < L.length
    · obtain ⟨t, ht⟩ : ∃ t, L[idx o q L]? = some t := ⟨_, List.getElem?_eq_getElem hlt⟩
      obtain ⟨h4, h5⟩ := l3 _ t ht
      have hot := (ok t (List.mem_of_getElem? ht)).1
      refine G_w (pfb_ok X) LK_36 (fun i => i == 51 || i == 68) 40 _ _ _ _ ?_
      simp only [f_0, f_s, f_iconst, f_bipush, f_sipush, f_ldc, f_ldc_w, f_ldc2_w, f_ldI, f_ldL, f_ldA, f_iload, f_iload_n, f_lload, f_lload_n, f_aload, f_aload_n, f_istore, f_istore_n, f_lstore, f_lstore_n, f_astore, f_astore_n, f_iinc, f_icI, f_iadd, f_isub, f_imul, f_idiv, f_irem, f_iand, f_ior, f_ixor, f_ishl, f_ishr, f_iushr, f_i2l, f_i2b, f_i2s, f_ladd, f_lmul, f_lcmp, f_dupI, f_dupR, f_dup2, f_pop, f_goto, f_if, f_icmp, f_tab, f_ts0, f_ts1, f_getI, f_getZ, f_getR, f_putI, f_putR, f_gets, f_iald, f_bald, f_aald, f_iast, f_bast, f_aast, f_alen, f_new, f_newa, f_anew, f_virt, f_stat0, f_stat1, f_spec0, f_spec1, f_spec9, f_copy, f_max, f_min, f_cV1, f_cV0, f_cS1, f_cS0, f_iret, f_lret, f_vret, f_kG, pf0, cIg, inR, lget, lset, lset2, clr, entL, cnd, psh, catS, tsw, List.take_succ_cons, List.take_zero, List.drop_succ_cons, List.drop_zero, List.reverse_cons, List.reverse_nil, List.nil_append, List.cons_append, List.length_cons, List.length_nil, List.replicate_succ, List.replicate_zero, Nat.reduceAdd, Nat.reduceSub, Nat.reduceLeDiff, Nat.reduceLT, Nat.reduceEqDiff, Nat.reduceMul, Nat.zero_add, Nat.add_zero, Nat.le_refl, Nat.zero_le, Int.reduceEq, Int.reduceToNat, Int.toNat_natCast, Int.reduceNeg, Int.reduceAdd, Int.reduceSub, Int.reduceMul, Int.reduceLT, Int.reduceLE, Int.reduceDiv, Int.reduceMod, Bool.false_eq_true, ↓reduceIte, true_and, and_true, implies_true, forall_const, true_or, or_true, or_false, false_or, not_true_eq_false, not_false_eq_true, false_implies, Prod.mk.injEq, Fin.val_zero, Fin.val_one, Fin.isValue, Fin.reduceFinMk, Fin.val_two, mR_uI, mK_uI, mN_uI, mI_uR, mK_uR, mN_uR, mR_uC, mK_uC, mN_uC, Option.some.injEq, Sum.inl.injEq, Sum.inr.injEq, decide_true, decide_false, Bool.or_false, Bool.false_or, Bool.or_true, Bool.true_or, Nat.reduceBEq, beq_self_eq_true, show tb 36 = tb_36 from rfl, tb_36, tb_36_0, tb_36_1, tb_36_2, pfb, pfb_b, pfb_c, pfb_v, pfa_b, pfa_c, pfa_v, p1, p2, p3, p4, p5, p6, p7, l1, h4, h5, mI_uI_eq]
      refine ⟨fun h => by omega, fun _ => ⟨⟨by omega, by omega⟩, fun hne => ?_, fun heq => ?_⟩⟩
      · exact hins (by unfold addT; rw [ht]; simp only [if_neg hne])
      · have heq : t.2 = q := by omega
        (repeat' (first | with_reducible apply And.intro | with_reducible intro _)) <;> (try omega)
        · rename_i hz
          refine G_w (pfb_ok X) LK_36 (fun i => false) 4 _ _ _ _ ?_
          simp only [f_0, f_s, f_iconst, f_bipush, f_sipush, f_ldc, f_ldc_w, f_ldc2_w, f_ldI, f_ldL, f_ldA, f_iload, f_iload_n, f_lload, f_lload_n, f_aload, f_aload_n, f_istore, f_istore_n, f_lstore, f_lstore_n, f_astore, f_astore_n, f_iinc, f_icI, f_iadd, f_isub, f_imul, f_idiv, f_irem, f_iand, f_ior, f_ixor, f_ishl, f_ishr, f_iushr, f_i2l, f_i2b, f_i2s, f_ladd, f_lmul, f_lcmp, f_dupI, f_dupR, f_dup2, f_pop, f_goto, f_if, f_icmp, f_tab, f_ts0, f_ts1, f_getI, f_getZ, f_getR, f_putI, f_putR, f_gets, f_iald, f_bald, f_aald, f_iast, f_bast, f_aast, f_alen, f_new, f_newa, f_anew, f_virt, f_stat0, f_stat1, f_spec0, f_spec1, f_spec9, f_copy, f_max, f_min, f_cV1, f_cV0, f_cS1, f_cS0, f_iret, f_lret, f_vret, f_kG, pf0, cIg, inR, lget, lset, lset2, clr, entL, cnd, psh, catS, tsw, List.take_succ_cons, List.take_zero, List.drop_succ_cons, List.drop_zero, List.reverse_cons, List.reverse_nil, List.nil_append, List.cons_append, List.length_cons, List.length_nil, List.replicate_succ, List.replicate_zero, Nat.reduceAdd, Nat.reduceSub, Nat.reduceLeDiff, Nat.reduceLT, Nat.reduceEqDiff, Nat.reduceMul, Nat.zero_add, Nat.add_zero, Nat.le_refl, Nat.zero_le, Int.reduceEq, Int.reduceToNat, Int.toNat_natCast, Int.reduceNeg, Int.reduceAdd, Int.reduceSub, Int.reduceMul, Int.reduceLT, Int.reduceLE, Int.reduceDiv, Int.reduceMod, Bool.false_eq_true, ↓reduceIte, true_and, and_true, implies_true, forall_const, true_or, or_true, or_false, false_or, not_true_eq_false, not_false_eq_true, false_implies, Prod.mk.injEq, Fin.val_zero, Fin.val_one, Fin.isValue, Fin.reduceFinMk, Fin.val_two, mR_uI, mK_uI, mN_uI, mI_uR, mK_uR, mN_uR, mR_uC, mK_uC, mN_uC, Option.some.injEq, Sum.inl.injEq, Sum.inr.injEq, decide_true, decide_false, Bool.or_false, Bool.false_or, Bool.or_true, Bool.true_or, Nat.reduceBEq, beq_self_eq_true, show tb 36 = tb_36 from rfl, tb_36, tb_36_0, tb_36_1, tb_36_2, pfb, pfb_b, pfb_c, pfb_v, pfa_b, pfa_c, pfa_v]
          have he : addT o n q L = L.set (idx o q L) ((t.1 + n) % 31, q) := by unfold addT; rw [ht]; simp only [if_pos heq, if_neg hz]
          rw [he]
          exact PL_set hL0 ht heq
        · rename_i hz
          have hz : (t.1 + n) % 31 = 0 := by omega
          have hl9 : mI (uI M (p + 1) (idx o q L) ((t.1 + n) % 31)) p 2 = L.length := by rw [mI_uI_ne (by omega)]; exact l1
          have hpa : PA (uI M (p + 1) (idx o q L) ((t.1 + n) % 31)) p := hp0
          refine Ev_mono (e_close X _ p _ L.length hpa hl9 hlt l2) (fun r M' hr _ _ => ?_)
          obtain ⟨rfl, rfl⟩ := hr
          simp only [f_kG, psh, Nat.reduceAdd]
          refine G_w (pfb_ok X) LK_36 (fun i => false) 6 _ _ _ _ ?_
          simp only [f_0, f_s, f_iconst, f_bipush, f_sipush, f_ldc, f_ldc_w, f_ldc2_w, f_ldI, f_ldL, f_ldA, f_iload, f_iload_n, f_lload, f_lload_n, f_aload, f_aload_n, f_istore, f_istore_n, f_lstore, f_lstore_n, f_astore, f_astore_n, f_iinc, f_icI, f_iadd, f_isub, f_imul, f_idiv, f_irem, f_iand, f_ior, f_ixor, f_ishl, f_ishr, f_iushr, f_i2l, f_i2b, f_i2s, f_ladd, f_lmul, f_lcmp, f_dupI, f_dupR, f_dup2, f_pop, f_goto, f_if, f_icmp, f_tab, f_ts0, f_ts1, f_getI, f_getZ, f_getR, f_putI, f_putR, f_gets, f_iald, f_bald, f_aald, f_iast, f_bast, f_aast, f_alen, f_new, f_newa, f_anew, f_virt, f_stat0, f_stat1, f_spec0, f_spec1, f_spec9, f_copy, f_max, f_min, f_cV1, f_cV0, f_cS1, f_cS0, f_iret, f_lret, f_vret, f_kG, pf0, cIg, inR, lget, lset, lset2, clr, entL, cnd, psh, catS, tsw, List.take_succ_cons, List.take_zero, List.drop_succ_cons, List.drop_zero, List.reverse_cons, List.reverse_nil, List.nil_append, List.cons_append, List.length_cons, List.length_nil, List.replicate_succ, List.replicate_zero, Nat.reduceAdd, Nat.reduceSub, Nat.reduceLeDiff, Nat.reduceLT, Nat.reduceEqDiff, Nat.reduceMul, Nat.zero_add, Nat.add_zero, Nat.le_refl, Nat.zero_le, Int.reduceEq, Int.reduceToNat, Int.toNat_natCast, Int.reduceNeg, Int.reduceAdd, Int.reduceSub, Int.reduceMul, Int.reduceLT, Int.reduceLE, Int.reduceDiv, Int.reduceMod, Bool.false_eq_true, ↓reduceIte, true_and, and_true, implies_true, forall_const, true_or, or_true, or_false, false_or, not_true_eq_false, not_false_eq_true, false_implies, Prod.mk.injEq, Fin.val_zero, Fin.val_one, Fin.isValue, Fin.reduceFinMk, Fin.val_two, mR_uI, mK_uI, mN_uI, mI_uR, mK_uR, mN_uR, mR_uC, mK_uC, mN_uC, Option.some.injEq, Sum.inl.injEq, Sum.inr.injEq, decide_true, decide_false, Bool.or_false, Bool.false_or, Bool.or_true, Bool.true_or, Nat.reduceBEq, beq_self_eq_true, show tb 36 = tb_36 from rfl, tb_36, tb_36_0, tb_36_1, tb_36_2, pfb, pfb_b, pfb_c, pfb_v, pfa_b, pfa_c, pfa_v]
          have he : addT o n q L = L.eraseIdx (idx o q L) := by unfold addT; rw [ht]; simp only [if_pos heq, if_pos hz]
          rw [he]
          exact PL_del hL0 hlt rfl
    · refine G_w (pfb_ok X) LK_36 (fun i => i == 51) 10 _ _ _ _ ?_
      simp only [f_0, f_s, f_iconst, f_bipush, f_sipush, f_ldc, f_ldc_w, f_ldc2_w, f_ldI, f_ldL, f_ldA, f_iload, f_iload_n, f_lload, f_lload_n, f_aload, f_aload_n, f_istore, f_istore_n, f_lstore, f_lstore_n, f_astore, f_astore_n, f_iinc, f_icI, f_iadd, f_isub, f_imul, f_idiv, f_irem, f_iand, f_ior, f_ixor, f_ishl, f_ishr, f_iushr, f_i2l, f_i2b, f_i2s, f_ladd, f_lmul, f_lcmp, f_dupI, f_dupR, f_dup2, f_pop, f_goto, f_if, f_icmp, f_tab, f_ts0, f_ts1, f_getI, f_getZ, f_getR, f_putI, f_putR, f_gets, f_iald, f_bald, f_aald, f_iast, f_bast, f_aast, f_alen, f_new, f_newa, f_anew, f_virt, f_stat0, f_stat1, f_spec0, f_spec1, f_spec9, f_copy, f_max, f_min, f_cV1, f_cV0, f_cS1, f_cS0, f_iret, f_lret, f_vret, f_kG, pf0, cIg, inR, lget, lset, lset2, clr, entL, cnd, psh, catS, tsw, List.take_succ_cons, List.take_zero, List.drop_succ_cons, List.drop_zero, List.reverse_cons, List.reverse_nil, List.nil_append, List.cons_append, List.length_cons, List.length_nil, List.replicate_succ, List.replicate_zero, Nat.reduceAdd, Nat.reduceSub, Nat.reduceLeDiff, Nat.reduceLT, Nat.reduceEqDiff, Nat.reduceMul, Nat.zero_add, Nat.add_zero, Nat.le_refl, Nat.zero_le, Int.reduceEq, Int.reduceToNat, Int.toNat_natCast, Int.reduceNeg, Int.reduceAdd, Int.reduceSub, Int.reduceMul, Int.reduceLT, Int.reduceLE, Int.reduceDiv, Int.reduceMod, Bool.false_eq_true, ↓reduceIte, true_and, and_true, implies_true, forall_const, true_or, or_true, or_false, false_or, not_true_eq_false, not_false_eq_true, false_implies, Prod.mk.injEq, Fin.val_zero, Fin.val_one, Fin.isValue, Fin.reduceFinMk, Fin.val_two, mR_uI, mK_uI, mN_uI, mI_uR, mK_uR, mN_uR, mR_uC, mK_uC, mN_uC, Option.some.injEq, Sum.inl.injEq, Sum.inr.injEq, decide_true, decide_false, Bool.or_false, Bool.false_or, Bool.or_true, Bool.true_or, Nat.reduceBEq, beq_self_eq_true, show tb 36 = tb_36 from rfl, tb_36, tb_36_0, tb_36_1, tb_36_2, pfb, pfb_b, pfb_c, pfb_v, pfa_b, pfa_c, pfa_v, p1, l1]
      refine ⟨fun _ => hins ?_, fun h => by omega⟩
      have : L[idx o q L]? = none := List.getElem?_eq_none (by omega)
      unfold addT
      rw [this]
  have loop : ∀ (d j : Nat), j + d = idx o q L → G X y_Polynomial_add (mZ M, mS M, 0, 0) 6 [some (aR (some p)), some (aI n), some (aI q), some (aI o), some (aI j), some (aI (rk o q))] [] M (fun r M' => r = none ∧ PL M' p (addT o n q L) ∧ Same M M' (T3 p)) := by
    intro d
    induction d with
    | zero =>
      intro j hj
      have hj2 : j = idx o q L := by omega
      subst hj2
      by_cases hlt : idx o q L < L.length
      · obtain ⟨t, ht⟩ : ∃ t, L[idx o q L]? = some t := ⟨_, List.getElem?_eq_getElem hlt⟩
        obtain ⟨h4, h5⟩ := l3 _ t ht
        have hot := (ok t (List.mem_of_getElem? ht)).2
        have hna := idx_at ht
        refine G_w (pfb_ok X) LK_36 (fun i => i == 6 || i == 20) 20 _ _ _ _ ?_
        simp only [f_0, f_s, f_iconst, f_bipush, f_sipush, f_ldc, f_ldc_w, f_ldc2_w, f_ldI, f_ldL, f_ldA, f_iload, f_iload_n, f_lload, f_lload_n, f_aload, f_aload_n, f_istore, f_istore_n, f_lstore, f_lstore_n, f_astore, f_astore_n, f_iinc, f_icI, f_iadd, f_isub, f_imul, f_idiv, f_irem, f_iand, f_ior, f_ixor, f_ishl, f_ishr, f_iushr, f_i2l, f_i2b, f_i2s, f_ladd, f_lmul, f_lcmp, f_dupI, f_dupR, f_dup2, f_pop, f_goto, f_if, f_icmp, f_tab, f_ts0, f_ts1, f_getI, f_getZ, f_getR, f_putI, f_putR, f_gets, f_iald, f_bald, f_aald, f_iast, f_bast, f_aast, f_alen, f_new, f_newa, f_anew, f_virt, f_stat0, f_stat1, f_spec0, f_spec1, f_spec9, f_copy, f_max, f_min, f_cV1, f_cV0, f_cS1, f_cS0, f_iret, f_lret, f_vret, f_kG, pf0, cIg, inR, lget, lset, lset2, clr, entL, cnd, psh, catS, tsw, List.take_succ_cons, List.take_zero, List.drop_succ_cons, List.drop_zero, List.reverse_cons, List.reverse_nil, List.nil_append, List.cons_append, List.length_cons, List.length_nil, List.replicate_succ, List.replicate_zero, Nat.reduceAdd, Nat.reduceSub, Nat.reduceLeDiff, Nat.reduceLT, Nat.reduceEqDiff, Nat.reduceMul, Nat.zero_add, Nat.add_zero, Nat.le_refl, Nat.zero_le, Int.reduceEq, Int.reduceToNat, Int.toNat_natCast, Int.reduceNeg, Int.reduceAdd, Int.reduceSub, Int.reduceMul, Int.reduceLT, Int.reduceLE, Int.reduceDiv, Int.reduceMod, Bool.false_eq_true, ↓reduceIte, true_and, and_true, implies_true, forall_const, true_or, or_true, or_false, false_or, not_true_eq_false, not_false_eq_true, false_implies, Prod.mk.injEq, Fin.val_zero, Fin.val_one, Fin.isValue, Fin.reduceFinMk, Fin.val_two, mR_uI, mK_uI, mN_uI, mI_uR, mK_uR, mN_uR, mR_uC, mK_uC, mN_uC, Option.some.injEq, Sum.inl.injEq, Sum.inr.injEq, decide_true, decide_false, Bool.or_false, Bool.false_or, Bool.or_true, Bool.true_or, Nat.reduceBEq, beq_self_eq_true, show tb 36 = tb_36 from rfl, tb_36, tb_36_0, tb_36_1, tb_36_2, pfb, pfb_b, pfb_c, pfb_v, pfa_b, pfa_c, pfa_v, p1, p3, p5, p7, l1, h5, hot]
        (repeat' (first | with_reducible apply And.intro | with_reducible intro _)) <;> (try omega)
        all_goals exact found
      · refine G_w (pfb_ok X) LK_36 (fun i => i == 6 || i == 20) 20 _ _ _ _ ?_
        simp only [f_0, f_s, f_iconst, f_bipush, f_sipush, f_ldc, f_ldc_w, f_ldc2_w, f_ldI, f_ldL, f_ldA, f_iload, f_iload_n, f_lload, f_lload_n, f_aload, f_aload_n, f_istore, f_istore_n, f_lstore, f_lstore_n, f_astore, f_astore_n, f_iinc, f_icI, f_iadd, f_isub, f_imul, f_idiv, f_irem, f_iand, f_ior, f_ixor, f_ishl, f_ishr, f_iushr, f_i2l, f_i2b, f_i2s, f_ladd, f_lmul, f_lcmp, f_dupI, f_dupR, f_dup2, f_pop, f_goto, f_if, f_icmp, f_tab, f_ts0, f_ts1, f_getI, f_getZ, f_getR, f_putI, f_putR, f_gets, f_iald, f_bald, f_aald, f_iast, f_bast, f_aast, f_alen, f_new, f_newa, f_anew, f_virt, f_stat0, f_stat1, f_spec0, f_spec1, f_spec9, f_copy, f_max, f_min, f_cV1, f_cV0, f_cS1, f_cS0, f_iret, f_lret, f_vret, f_kG, pf0, cIg, inR, lget, lset, lset2, clr, entL, cnd, psh, catS, tsw, List.take_succ_cons, List.take_zero, List.drop_succ_cons, List.drop_zero, List.reverse_cons, List.reverse_nil, List.nil_append, List.cons_append, List.length_cons, List.length_nil, List.replicate_succ, List.replicate_zero, Nat.reduceAdd, Nat.reduceSub, Nat.reduceLeDiff, Nat.reduceLT, Nat.reduceEqDiff, Nat.reduceMul, Nat.zero_add, Nat.add_zero, Nat.le_refl, Nat.zero_le, Int.reduceEq, Int.reduceToNat, Int.toNat_natCast, Int.reduceNeg, Int.reduceAdd, Int.reduceSub, Int.reduceMul, Int.reduceLT, Int.reduceLE, Int.reduceDiv, Int.reduceMod, Bool.false_eq_true, ↓reduceIte, true_and, and_true, implies_true, forall_const, true_or, or_true, or_false, false_or, not_true_eq_false, not_false_eq_true, false_implies, Prod.mk.injEq, Fin.val_zero, Fin.val_one, Fin.isValue, Fin.reduceFinMk, Fin.val_two, mR_uI, mK_uI, mN_uI, mI_uR, mK_uR, mN_uR, mR_uC, mK_uC, mN_uC, Option.some.injEq, Sum.inl.injEq, Sum.inr.injEq, decide_true, decide_false, Bool.or_false, Bool.false_or, Bool.or_true, Bool.true_or, Nat.reduceBEq, beq_self_eq_true, show tb 36 = tb_36 from rfl, tb_36, tb_36_0, tb_36_1, tb_36_2, pfb, pfb_b, pfb_c, pfb_v, pfa_b, pfa_c, pfa_v, p1, l1]
        exact ⟨fun _ => found, fun h => by omega⟩
    | succ d ih =>
      intro j hj
      obtain ⟨t, ht⟩ : ∃ t, L[j]? = some t := ⟨_, List.getElem?_eq_getElem (by omega)⟩
      obtain ⟨h4, h5⟩ := l3 _ t ht
      have hot := (ok t (List.mem_of_getElem? ht)).2
      have hna := idx_lt (o := o) (q := q) (L := L) (j := j) (by omega) ht
      refine G_w (pfb_ok X) LK_36 (fun i => i == 6 || i == 20) 20 _ _ _ _ ?_
      simp only [f_0, f_s, f_iconst, f_bipush, f_sipush, f_ldc, f_ldc_w, f_ldc2_w, f_ldI, f_ldL, f_ldA, f_iload, f_iload_n, f_lload, f_lload_n, f_aload, f_aload_n, f_istore, f_istore_n, f_lstore, f_lstore_n, f_astore, f_astore_n, f_iinc, f_icI, f_iadd, f_isub, f_imul, f_idiv, f_irem, f_iand, f_ior, f_ixor, f_ishl, f_ishr, f_iushr, f_i2l, f_i2b, f_i2s, f_ladd, f_lmul, f_lcmp, f_dupI, f_dupR, f_dup2, f_pop, f_goto, f_if, f_icmp, f_tab, f_ts0, f_ts1, f_getI, f_getZ, f_getR, f_putI, f_putR, f_gets, f_iald, f_bald, f_aald, f_iast, f_bast, f_aast, f_alen, f_new, f_newa, f_anew, f_virt, f_stat0, f_stat1, f_spec0, f_spec1, f_spec9, f_copy, f_max, f_min, f_cV1, f_cV0, f_cS1, f_cS0, f_iret, f_lret, f_vret, f_kG, pf0, cIg, inR, lget, lset, lset2, clr, entL, cnd, psh, catS, tsw, List.take_succ_cons, List.take_zero, List.drop_succ_cons, List.drop_zero, List.reverse_cons, List.reverse_nil, List.nil_append, List.cons_append, List.length_cons, List.length_nil, List.replicate_succ, List.replicate_zero, Nat.reduceAdd, Nat.reduceSub, Nat.reduceLeDiff, Nat.reduceLT, Nat.reduceEqDiff, Nat.reduceMul, Nat.zero_add, Nat.add_zero, Nat.le_refl, Nat.zero_le, Int.reduceEq, Int.reduceToNat, Int.toNat_natCast, Int.reduceNeg, Int.reduceAdd, Int.reduceSub, Int.reduceMul, Int.reduceLT, Int.reduceLE, Int.reduceDiv, Int.reduceMod, Bool.false_eq_true, ↓reduceIte, true_and, and_true, implies_true, forall_const, true_or, or_true, or_false, false_or, not_true_eq_false, not_false_eq_true, false_implies, Prod.mk.injEq, Fin.val_zero, Fin.val_one, Fin.isValue, Fin.reduceFinMk, Fin.val_two, mR_uI, mK_uI, mN_uI, mI_uR, mK_uR, mN_uR, mR_uC, mK_uC, mN_uC, Option.some.injEq, Sum.inl.injEq, Sum.inr.injEq, decide_true, decide_false, Bool.or_false, Bool.false_or, Bool.or_true, Bool.true_or, Nat.reduceBEq, beq_self_eq_true, show tb 36 = tb_36 from rfl, tb_36, tb_36_0, tb_36_1, tb_36_2, pfb, pfb_b, pfb_c, pfb_v, pfa_b, pfa_c, pfa_v, p1, p3, p5, p7, l1, h5, hot]
      (repeat' (first | with_reducible apply And.intro | with_reducible intro _)) <;> (try omega)
      exact ih (j + 1) (by omega)
  refine Ev_of mcd_36 mok_36 (by decide) rfl (Nat.le_of_ble_eq_true rfl) ?_
  rw [show yl 36 = 6 from rfl]
  refine G_w (pfb_ok X) LK_36 (fun i => i == 6) 10 _ _ _ _ ?_
  simp only [f_0, f_s, f_iconst, f_bipush, f_sipush, f_ldc, f_ldc_w, f_ldc2_w, f_ldI, f_ldL, f_ldA, f_iload, f_iload_n, f_lload, f_lload_n, f_aload, f_aload_n, f_istore, f_istore_n, f_lstore, f_lstore_n, f_astore, f_astore_n, f_iinc, f_icI, f_iadd, f_isub, f_imul, f_idiv, f_irem, f_iand, f_ior, f_ixor, f_ishl, f_ishr, f_iushr, f_i2l, f_i2b, f_i2s, f_ladd, f_lmul, f_lcmp, f_dupI, f_dupR, f_dup2, f_pop, f_goto, f_if, f_icmp, f_tab, f_ts0, f_ts1, f_getI, f_getZ, f_getR, f_putI, f_putR, f_gets, f_iald, f_bald, f_aald, f_iast, f_bast, f_aast, f_alen, f_new, f_newa, f_anew, f_virt, f_stat0, f_stat1, f_spec0, f_spec1, f_spec9, f_copy, f_max, f_min, f_cV1, f_cV0, f_cS1, f_cS0, f_iret, f_lret, f_vret, f_kG, pf0, cIg, inR, lget, lset, lset2, clr, entL, cnd, psh, catS, tsw, List.take_succ_cons, List.take_zero, List.drop_succ_cons, List.drop_zero, List.reverse_cons, List.reverse_nil, List.nil_append, List.cons_append, List.length_cons, List.length_nil, List.replicate_succ, List.replicate_zero, Nat.reduceAdd, Nat.reduceSub, Nat.reduceLeDiff, Nat.reduceLT, Nat.reduceEqDiff, Nat.reduceMul, Nat.zero_add, Nat.add_zero, Nat.le_refl, Nat.zero_le, Int.reduceEq, Int.reduceToNat, Int.toNat_natCast, Int.reduceNeg, Int.reduceAdd, Int.reduceSub, Int.reduceMul, Int.reduceLT, Int.reduceLE, Int.reduceDiv, Int.reduceMod, Bool.false_eq_true, ↓reduceIte, true_and, and_true, implies_true, forall_const, true_or, or_true, or_false, false_or, not_true_eq_false, not_false_eq_true, false_implies, Prod.mk.injEq, Fin.val_zero, Fin.val_one, Fin.isValue, Fin.reduceFinMk, Fin.val_two, mR_uI, mK_uI, mN_uI, mI_uR, mK_uR, mN_uR, mR_uC, mK_uC, mN_uC, Option.some.injEq, Sum.inl.injEq, Sum.inr.injEq, decide_true, decide_false, Bool.or_false, Bool.false_or, Bool.or_true, Bool.true_or, Nat.reduceBEq, beq_self_eq_true, show tb 36 = tb_36 from rfl, tb_36, tb_36_0, tb_36_1, tb_36_2, pfb, pfb_b, pfb_c, pfb_v, pfa_b, pfa_c, pfa_v, hq]
  exact loop _ 0 (Nat.zero_add _)
