/-! a term is added; rows -/
set_option maxRecDepth 100000 in
set_option maxHeartbeats 4000000 in
theorem e_multiply (X : CX) (M : Mem) (p : Nat) (f : Int) (L : Po) (hp : PA M p) (hL : PL M p L) (ok : okP L) (hf : isPr f) : Ev X y_Polynomial_multiply (0, 0) [aR (some p), aI f] M (fun r M' => r = none ∧ PL M' p (L.map (fun t => (t.1, t.2 + f))) ∧ Same M M' (fun a => a = p + 2)) := by
  obtain ⟨p1, p2, p3, p4, p5, p6, p7⟩ := hp
  obtain ⟨l1, l2, l3⟩ := hL
  have loop : ∀ (d j : Nat) (M1 : Mem), j + d = L.length → Same M M1 (fun a => a = p + 2) → (∀ k t, L[k]? = some t → mI M1 (p + 2) k = if k < j then t.2 + f else t.2) → G X y_Polynomial_multiply (mZ M, mS M, 0, 0) 2 [some (aR (some p)), some (aI f), some (aI j)] [] M1 (fun r M' => r = none ∧ PL M' p (L.map (fun t => (t.1, t.2 + f))) ∧ Same M M' (fun a => a = p + 2)) := by
    intro d
    induction d with
    | zero =>
      intro j M1 hj hS hv
      have e1 := hS.1 p; have e2 := hS.2.2.2 p 2 (by omega)
      refine G_w (pfb_ok X) LK_59 (fun i => i == 2) 10 _ _ _ _ ?_
      simp only [f_0, f_s, f_iconst, f_bipush, f_sipush, f_ldc, f_ldc_w, f_ldc2_w, f_ldI, f_ldL, f_ldA, f_iload, f_iload_n, f_lload, f_lload_n, f_aload, f_aload_n, f_istore, f_istore_n, f_lstore, f_lstore_n, f_astore, f_astore_n, f_iinc, f_icI, f_iadd, f_isub, f_imul, f_idiv, f_irem, f_iand, f_ior, f_ixor, f_ishl, f_ishr, f_iushr, f_i2l, f_i2b, f_i2s, f_ladd, f_lmul, f_lcmp, f_dupI, f_dupR, f_dup2, f_pop, f_goto, f_if, f_icmp, f_tab, f_ts0, f_ts1, f_getI, f_getZ, f_getR, f_putI, f_putR, f_gets, f_iald, f_bald, f_aald, f_iast, f_bast, f_aast, f_alen, f_new, f_newa, f_anew, f_virt, f_stat0, f_stat1, f_spec0, f_spec1, f_spec9, f_copy, f_max, f_min, f_cV1, f_cV0, f_cS1, f_cS0, f_iret, f_lret, f_vret, f_kG, pf0, cIg, inR, lget, lset, lset2, clr, entL, cnd, psh, catS, tsw, List.take_succ_cons, List.take_zero, List.drop_succ_cons, List.drop_zero, List.reverse_cons, List.reverse_nil, List.nil_append, List.cons_append, List.length_cons, List.length_nil, List.replicate_succ, List.replicate_zero, Nat.reduceAdd, Nat.reduceSub, Nat.reduceLeDiff, Nat.reduceLT, Nat.reduceEqDiff, Nat.reduceMul, Nat.zero_add, Nat.add_zero, Nat.le_refl, Nat.zero_le, Int.reduceEq, Int.reduceToNat, Int.toNat_natCast, Int.reduceNeg, Int.reduceAdd, Int.reduceSub, Int.reduceMul, Int.reduceLT, Int.reduceLE, Int.reduceDiv, Int.reduceMod, Bool.false_eq_true, ↓reduceIte, true_and, and_true, implies_true, forall_const, true_or, or_true, or_false, false_or, not_true_eq_false, not_false_eq_true, false_implies, Prod.mk.injEq, Fin.val_zero, Fin.val_one, Fin.isValue, Fin.reduceFinMk, Fin.val_two, mR_uI, mK_uI, mN_uI, mI_uR, mK_uR, mN_uR, mR_uC, mK_uC, mN_uC, Option.some.injEq, Sum.inl.injEq, Sum.inr.injEq, decide_true, decide_false, Bool.or_false, Bool.false_or, Bool.or_true, Bool.true_or, Nat.reduceBEq, beq_self_eq_true, show tb 59 = tb_59 from rfl, tb_59, tb_59_0, pfb, pfb_b, pfb_c, pfb_v, pfa_b, pfa_c, pfa_v, e1, e2, p1, l1]
      refine ⟨fun _ => ⟨⟨?_, ?_, fun k t ht => ?_⟩, hS⟩, fun h => by omega⟩
      · rw [e2, l1]; simp
      · simpa using l2
      · rw [List.getElem?_map] at ht
        obtain ⟨u, hu, rfl⟩ := Option.map_eq_some_iff.mp ht
        have hk : k < L.length := (List.getElem?_eq_some_iff.mp hu).1
        rw [hv k u hu, if_pos (by omega), hS.2.2.2 (p + 1) k (by omega)]
        exact ⟨(l3 k u hu).1, rfl⟩
    | succ d ih =>
      intro j M1 hj hS hv
      have e1 := hS.1 p; have e2 := hS.2.2.2 p 2 (by omega); have e3 := hS.2.2.1 p 1; have e4 := hS.1 (p + 2); have e5 := hS.2.1 (p + 2)
      obtain ⟨u, hu⟩ : ∃ u, L[j]? = some u := ⟨_, List.getElem?_eq_getElem (by omega)⟩
      have hvj := hv j u hu
      rw [if_neg (by omega)] at hvj
      have hou := (ok u (List.mem_of_getElem? hu)).2
      unfold isPr at hou hf
      refine G_w (pfb_ok X) LK_59 (fun i => i == 2) 30 _ _ _ _ ?_
      simp only [f_0, f_s, f_iconst, f_bipush, f_sipush, f_ldc, f_ldc_w, f_ldc2_w, f_ldI, f_ldL, f_ldA, f_iload, f_iload_n, f_lload, f_lload_n, f_aload, f_aload_n, f_istore, f_istore_n, f_lstore, f_lstore_n, f_astore, f_astore_n, f_iinc, f_icI, f_iadd, f_isub, f_imul, f_idiv, f_irem, f_iand, f_ior, f_ixor, f_ishl, f_ishr, f_iushr, f_i2l, f_i2b, f_i2s, f_ladd, f_lmul, f_lcmp, f_dupI, f_dupR, f_dup2, f_pop, f_goto, f_if, f_icmp, f_tab, f_ts0, f_ts1, f_getI, f_getZ, f_getR, f_putI, f_putR, f_gets, f_iald, f_bald, f_aald, f_iast, f_bast, f_aast, f_alen, f_new, f_newa, f_anew, f_virt, f_stat0, f_stat1, f_spec0, f_spec1, f_spec9, f_copy, f_max, f_min, f_cV1, f_cV0, f_cS1, f_cS0, f_iret, f_lret, f_vret, f_kG, pf0, cIg, inR, lget, lset, lset2, clr, entL, cnd, psh, catS, tsw, List.take_succ_cons, List.take_zero, List.drop_succ_cons, List.drop_zero, List.reverse_cons, List.reverse_nil, List.nil_append, List.cons_append, List.length_cons, List.length_nil, List.replicate_succ, List.replicate_zero, Nat.reduceAdd, Nat.reduceSub, Nat.reduceLeDiff, Nat.reduceLT, Nat.reduceEqDiff, Nat.reduceMul, Nat.zero_add, Nat.add_zero, Nat.le_refl, Nat.zero_le, Int.reduceEq, Int.reduceToNat, Int.toNat_natCast, Int.reduceNeg, Int.reduceAdd, Int.reduceSub, Int.reduceMul, Int.reduceLT, Int.reduceLE, Int.reduceDiv, Int.reduceMod, Bool.false_eq_true, ↓reduceIte, true_and, and_true, implies_true, forall_const, true_or, or_true, or_false, false_or, not_true_eq_false, not_false_eq_true, false_implies, Prod.mk.injEq, Fin.val_zero, Fin.val_one, Fin.isValue, Fin.reduceFinMk, Fin.val_two, mR_uI, mK_uI, mN_uI, mI_uR, mK_uR, mN_uR, mR_uC, mK_uC, mN_uC, Option.some.injEq, Sum.inl.injEq, Sum.inr.injEq, decide_true, decide_false, Bool.or_false, Bool.false_or, Bool.or_true, Bool.true_or, Nat.reduceBEq, beq_self_eq_true, show tb 59 = tb_59 from rfl, tb_59, tb_59_0, pfb, pfb_b, pfb_c, pfb_v, pfa_b, pfa_c, pfa_v, e1, e2, e3, e4, e5, p1, p3, p5, p7, l1, hvj]
      (repeat' (first | with_reducible apply And.intro | with_reducible intro _)) <;> (try omega)
      refine ih (j + 1) _ (by omega) (hS.uI rfl _ _) (fun k t ht => ?_)
      rw [mI_uI]
      by_cases hk : k = j
      · subst hk
        rw [hu] at ht; cases ht
        rw [if_pos ⟨rfl, rfl⟩, if_pos (by omega)]
      · rw [if_neg (fun h9 => hk h9.2), hv k t ht]
        by_cases h8 : k < j
        · rw [if_pos h8, if_pos (by omega)]
        · rw [if_neg h8, if_neg (by omega)]
  refine Ev_of mcd_59 mok_59 (by decide) rfl (Nat.le_of_ble_eq_true rfl) ?_
  rw [show yl 59 = 3 from rfl]
  refine G_w (pfb_ok X) LK_59 (fun i => i == 2) 4 _ _ _ _ ?_
  simp only [f_0, f_s, f_iconst, f_bipush, f_sipush, f_ldc, f_ldc_w, f_ldc2_w, f_ldI, f_ldL, f_ldA, f_iload, f_iload_n, f_lload, f_lload_n, f_aload, f_aload_n, f_istore, f_istore_n, f_lstore, f_lstore_n, f_astore, f_astore_n, f_iinc, f_icI, f_iadd, f_isub, f_imul, f_idiv, f_irem, f_iand, f_ior, f_ixor, f_ishl, f_ishr, f_iushr, f_i2l, f_i2b, f_i2s, f_ladd, f_lmul, f_lcmp, f_dupI, f_dupR, f_dup2, f_pop, f_goto, f_if, f_icmp, f_tab, f_ts0, f_ts1, f_getI, f_getZ, f_getR, f_putI, f_putR, f_gets, f_iald, f_bald, f_aald, f_iast, f_bast, f_aast, f_alen, f_new, f_newa, f_anew, f_virt, f_stat0, f_stat1, f_spec0, f_spec1, f_spec9, f_copy, f_max, f_min, f_cV1, f_cV0, f_cS1, f_cS0, f_iret, f_lret, f_vret, f_kG, pf0, cIg, inR, lget, lset, lset2, clr, entL, cnd, psh, catS, tsw, List.take_succ_cons, List.take_zero, List.drop_succ_cons, List.drop_zero, List.reverse_cons, List.reverse_nil, List.nil_append, List.cons_append, List.length_cons, List.length_nil, List.replicate_succ, List.replicate_zero, Nat.reduceAdd, Nat.reduceSub, Nat.reduceLeDiff, Nat.reduceLT, Nat.reduceEqDiff, Nat.reduceMul, Nat.zero_add, Nat.add_zero, Nat.le_refl, Nat.zero_le, Int.reduceEq, Int.reduceToNat, Int.toNat_natCast, Int.reduceNeg, Int.reduceAdd, Int.reduceSub, Int.reduceMul, Int.reduceLT, Int.reduceLE, Int.reduceDiv, Int.reduceMod, Bool.false_eq_true, ↓reduceIte, true_and, and_true, implies_true, forall_const, true_or, or_true, or_false, false_or, not_true_eq_false, not_false_eq_true, false_implies, Prod.mk.injEq, Fin.val_zero, Fin.val_one, Fin.isValue, Fin.reduceFinMk, Fin.val_two, mR_uI, mK_uI, mN_uI, mI_uR, mK_uR, mN_uR, mR_uC, mK_uC, mN_uC, Option.some.injEq, Sum.inl.injEq, Sum.inr.injEq, decide_true, decide_false, Bool.or_false, Bool.false_or, Bool.or_true, Bool.true_or, Nat.reduceBEq, beq_self_eq_true, show tb 59 = tb_59 from rfl, tb_59, tb_59_0, pfb, pfb_b, pfb_c, pfb_v, pfa_b, pfa_c, pfa_v]
  exact loop L.length 0 M (Nat.zero_add _) (Same.rf _ _) (fun k t ht => by rw [if_neg (by omega)]; exact (l3 k t ht).2)
def opM (M : Mem) (p k n : Nat) : Mem := uI (uC (uC M (p + 1) k (p + 1) (k + 1) (n - k)) (p + 2) k (p + 2) (k + 1) (n - k)) p 2 (n + 1)
def clM (M : Mem) (p k n : Nat) : Mem := uC (uC (uI M p 2 (n - 1 : Int)) (p + 1) (k + 1) (p + 1) k (n - 1 - k)) (p + 2) (k + 1) (p + 2) k (n - 1 - k)
set_option maxRecDepth 100000 in
set_option maxHeartbeats 4000000 in
theorem e_open (X : CX) (M : Mem) (p k n : Nat) (hp : PA M p) (hn : mI M p 2 = n) (hk : k ≤ n) (h30 : n < 30) : Ev X y_Polynomial_open (0, 0) [aR (some p), aI k] M (fun r M' => r = none ∧ M' = opM M p k n) := by
  obtain ⟨p1, p2, p3, p4, p5, p6, p7⟩ := hp
  refine Ev_of mcd_40 mok_40 (by decide) rfl (Nat.le_of_ble_eq_true rfl) ?_
  rw [show yl 40 = 2 from rfl]
  refine G_w (pfb_ok X) LK_40 (fun i => false) 60 _ _ _ _ ?_
  simp only [f_0, f_s, f_iconst, f_bipush, f_sipush, f_ldc, f_ldc_w, f_ldc2_w, f_ldI, f_ldL, f_ldA, f_iload, f_iload_n, f_lload, f_lload_n, f_aload, f_aload_n, f_istore, f_istore_n, f_lstore, f_lstore_n, f_astore, f_astore_n, f_iinc, f_icI, f_iadd, f_isub, f_imul, f_idiv, f_irem, f_iand, f_ior, f_ixor, f_ishl, f_ishr, f_iushr, f_i2l, f_i2b, f_i2s, f_ladd, f_lmul, f_lcmp, f_dupI, f_dupR, f_dup2, f_pop, f_goto, f_if, f_icmp, f_tab, f_ts0, f_ts1, f_getI, f_getZ, f_getR, f_putI, f_putR, f_gets, f_iald, f_bald, f_aald, f_iast, f_bast, f_aast, f_alen, f_new, f_newa, f_anew, f_virt, f_stat0, f_stat1, f_spec0, f_spec1, f_spec9, f_copy, f_max, f_min, f_cV1, f_cV0, f_cS1, f_cS0, f_iret, f_lret, f_vret, f_kG, pf0, cIg, inR, lget, lset, lset2, clr, entL, cnd, psh, catS, tsw, List.take_succ_cons, List.take_zero, List.drop_succ_cons, List.drop_zero, List.reverse_cons, List.reverse_nil, List.nil_append, List.cons_append, List.length_cons, List.length_nil, List.replicate_succ, List.replicate_zero, Nat.reduceAdd, Nat.reduceSub, Nat.reduceLeDiff, Nat.reduceLT, Nat.reduceEqDiff, Nat.reduceMul, Nat.zero_add, Nat.add_zero, Nat.le_refl, Nat.zero_le, Int.reduceEq, Int.reduceToNat, Int.toNat_natCast, Int.reduceNeg, Int.reduceAdd, Int.reduceSub, Int.reduceMul, Int.reduceLT, Int.reduceLE, Int.reduceDiv, Int.reduceMod, Bool.false_eq_true, ↓reduceIte, true_and, and_true, implies_true, forall_const, true_or, or_true, or_false, false_or, not_true_eq_false, not_false_eq_true, false_implies, Prod.mk.injEq, Fin.val_zero, Fin.val_one, Fin.isValue, Fin.reduceFinMk, Fin.val_two, mR_uI, mK_uI, mN_uI, mI_uR, mK_uR, mN_uR, mR_uC, mK_uC, mN_uC, Option.some.injEq, Sum.inl.injEq, Sum.inr.injEq, decide_true, decide_false, Bool.or_false, Bool.false_or, Bool.or_true, Bool.true_or, Nat.reduceBEq, beq_self_eq_true, show tb 40 = tb_40 from rfl, tb_40, tb_40_0, tb_40_1, pfb, pfb_b, pfb_c, pfb_v, pfa_b, pfa_c, pfa_v, p1, p2, p3, p4, p5, p6, p7, hn, mI_uC_ne (show p ≠ p + 1 by omega), mI_uC_ne (show p ≠ p + 2 by omega)]
  have e1 : ((n : Int) - (k : Int)).toNat = n - k := by omega
  have e2 : ((k : Int) + 1).toNat = k + 1 := by omega
  (repeat' (first | with_reducible apply And.intro | with_reducible intro _)) <;> (try omega)
  simp only [opM, e1, e2]
set_option maxRecDepth 100000 in
set_option maxHeartbeats 4000000 in
theorem e_close (X : CX) (M : Mem) (p k n : Nat) (hp : PA M p) (hn : mI M p 2 = n) (hk : k < n) (h30 : n ≤ 30) : Ev X y_Polynomial_close (0, 0) [aR (some p), aI k] M (fun r M' => r = none ∧ M' = clM M p k n) := by
  obtain ⟨p1, p2, p3, p4, p5, p6, p7⟩ := hp
  refine Ev_of mcd_39 mok_39 (by decide) rfl (Nat.le_of_ble_eq_true rfl) ?_
  rw [show yl 39 = 2 from rfl]
  refine G_w (pfb_ok X) LK_39 (fun i => false) 60 _ _ _ _ ?_
  simp only [f_0, f_s, f_iconst, f_bipush, f_sipush, f_ldc, f_ldc_w, f_ldc2_w, f_ldI, f_ldL, f_ldA, f_iload, f_iload_n, f_lload, f_lload_n, f_aload, f_aload_n, f_istore, f_istore_n, f_lstore, f_lstore_n, f_astore, f_astore_n, f_iinc, f_icI, f_iadd, f_isub, f_imul, f_idiv, f_irem, f_iand, f_ior, f_ixor, f_ishl, f_ishr, f_iushr, f_i2l, f_i2b, f_i2s, f_ladd, f_lmul, f_lcmp, f_dupI, f_dupR, f_dup2, f_pop, f_goto, f_if, f_icmp, f_tab, f_ts0, f_ts1, f_getI, f_getZ, f_getR, f_putI, f_putR, f_gets, f_iald, f_bald, f_aald, f_iast, f_bast, f_aast, f_alen, f_new, f_newa, f_anew, f_virt, f_stat0, f_stat1, f_spec0, f_spec1, f_spec9, f_copy, f_max, f_min, f_cV1, f_cV0, f_cS1, f_cS0, f_iret, f_lret, f_vret, f_kG, pf0, cIg, inR, lget, lset, lset2, clr, entL, cnd, psh, catS, tsw, List.take_succ_cons, List.take_zero, List.drop_succ_cons, List.drop_zero, List.reverse_cons, List.reverse_nil, List.nil_append, List.cons_append, List.length_cons, List.length_nil, List.replicate_succ, List.replicate_zero, Nat.reduceAdd, Nat.reduceSub, Nat.reduceLeDiff, Nat.reduceLT, Nat.reduceEqDiff, Nat.reduceMul, Nat.zero_add, Nat.add_zero, Nat.le_refl, Nat.zero_le, Int.reduceEq, Int.reduceToNat, Int.toNat_natCast, Int.reduceNeg, Int.reduceAdd, Int.reduceSub, Int.reduceMul, Int.reduceLT, Int.reduceLE, Int.reduceDiv, Int.reduceMod, Bool.false_eq_true, ↓reduceIte, true_and, and_true, implies_true, forall_const, true_or, or_true, or_false, false_or, not_true_eq_false, not_false_eq_true, false_implies, Prod.mk.injEq, Fin.val_zero, Fin.val_one, Fin.isValue, Fin.reduceFinMk, Fin.val_two, mR_uI, mK_uI, mN_uI, mI_uR, mK_uR, mN_uR, mR_uC, mK_uC, mN_uC, Option.some.injEq, Sum.inl.injEq, Sum.inr.injEq, decide_true, decide_false, Bool.or_false, Bool.false_or, Bool.or_true, Bool.true_or, Nat.reduceBEq, beq_self_eq_true, show tb 39 = tb_39 from rfl, tb_39, tb_39_0, tb_39_1, pfb, pfb_b, pfb_c, pfb_v, pfa_b, pfa_c, pfa_v, p1, p2, p3, p4, p5, p6, p7, hn, mI_uI_eq, mI_uC_ne (show p ≠ p + 1 by omega), mI_uC_ne (show p ≠ p + 2 by omega)]
  have e1 : ((n : Int) - 1 - (k : Int)).toNat = n - 1 - k := by omega
  have e2 : ((k : Int) + 1).toNat = k + 1 := by omega
  (repeat' (first | with_reducible apply And.intro | with_reducible intro _)) <;> (try omega)
  simp only [clM, e1, e2]
/-- how many terms are ahead of a product -/
def idx (o q : Int) (L : Po) : Nat := (L.takeWhile (fun t => decide (rk o q < rk o t.2))).length
/-- a term more -/
def addT (o n q : Int) (L : Po) : Po := match L[idx o q L]? with
  | some t => if t.2 = q then (if (t.1 + n) % 31 = 0 then L.eraseIdx (idx o q L) else L.set (idx o q L) ((t.1 + n) % 31, q)) else L.insertIdx (idx o q L) (n, q)
  | none => L.insertIdx (idx o q L) (n, q)
theorem idx_le (o q : Int) (L : Po) : idx o q L ≤ L.length := by
  unfold idx
  exact (List.takeWhile_prefix _).length_le
theorem idx_lt {o q : Int} : ∀ {L : Po} {j : Nat} {t : Int × Int}, j < idx o q L → L[j]? = some t → rk o q < rk o t.2
  | [], j, t, h, ht => by simp at ht
  | u :: L, j, t, h, ht => by
    unfold idx at h
    rw [List.takeWhile_cons] at h
    split at h
    · rename_i hc
      cases j with
      | zero => simp at ht; subst ht; simpa using hc
      | succ j => exact idx_lt (L := L) (j := j) (by unfold idx; simpa using h) (by simpa using ht)
    · simp at h
theorem idx_at {o q : Int} : ∀ {L : Po} {t : Int × Int}, L[idx o q L]? = some t → ¬ rk o q < rk o t.2
  | [], t, ht => by simp at ht
  | u :: L, t, ht => by
    unfold idx at ht
    rw [List.takeWhile_cons] at ht
    split at ht
    · exact idx_at (L := L) (by unfold idx; simpa using ht)
    · rename_i hc
      simp at ht; subst ht
      simpa using hc
