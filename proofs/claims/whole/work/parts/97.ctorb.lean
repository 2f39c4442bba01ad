/-! more constructors -/
theorem Cn.lay {M M' : Mem} {n n' k m : Nat} {f : Nat → Cel} (h : Cn M n f) (hn : n < n') (hL : Laid (uN M k m) M' n n') (hz : mZ M' = n') : Cn M' n' (fun a => if n ≤ a ∧ a < n' then LC a else f a) := by
  refine ⟨hz, fun a => ?_⟩
  show cl M' a = if n ≤ a ∧ a < n' then LC a else f a
  by_cases ha : n ≤ a ∧ a < n'
  · rw [if_pos ha]
    exact hL.1 a ha.1 ha.2
  · rw [if_neg ha, hL.2 a ha, (h.nN k m).e a, if_neg (by omega)]
theorem Cn.cv {M : Mem} {n : Nat} {f g : Nat → Cel} (h : Cn M n f) (hfg : ∀ a, f a = g a) : Cn M n g := ⟨h.1, fun a => (h.2 a).trans (hfg a)⟩
set_option maxRecDepth 100000 in
set_option maxHeartbeats 4000000 in
theorem e_newRd (X : CX) (M : Mem) (p : Nat) : Ev X y_Reader_init (0, 0) [aR (some p)] M (fun r M' => r = none ∧ ∀ a, cl M' a = cl M a) := by
  have hL : ∀ a, cl (uS M (mS M + 0)) a = cl M a := fun a => rfl
  have hL2 : ∀ a, cl (uS M (mS M)) a = cl M a := fun a => rfl
  refine Ev_of mcd_2 mok_2 (by decide) rfl (Nat.le_of_ble_eq_true rfl) ?_
  rw [show yl 2 = 1 from rfl]
  refine G_w (pf0_ok X) LK_2 (fun i => false) 20 _ _ _ _ ?_
  simp only [f_0, f_s, f_iconst, f_bipush, f_sipush, f_ldc, f_ldc_w, f_ldc2_w, f_ldI, f_ldL, f_ldA, f_iload, f_iload_n, f_lload, f_lload_n, f_aload, f_aload_n, f_istore, f_istore_n, f_lstore, f_lstore_n, f_astore, f_astore_n, f_iinc, f_icI, f_iadd, f_isub, f_imul, f_idiv, f_irem, f_iand, f_ior, f_ixor, f_ishl, f_ishr, f_iushr, f_i2l, f_i2b, f_i2s, f_ladd, f_lmul, f_lcmp, f_dupI, f_dupR, f_dup2, f_pop, f_goto, f_if, f_icmp, f_tab, f_ts0, f_ts1, f_getI, f_getZ, f_getR, f_putI, f_putR, f_gets, f_iald, f_bald, f_aald, f_iast, f_bast, f_aast, f_alen, f_new, f_newa, f_anew, f_virt, f_stat0, f_stat1, f_spec0, f_spec1, f_spec9, f_copy, f_max, f_min, f_cV1, f_cV0, f_cS1, f_cS0, f_iret, f_lret, f_vret, f_kG, pf0, cIg, inR, lget, lset, lset2, clr, entL, cnd, psh, catS, tsw, List.take_succ_cons, List.take_zero, List.drop_succ_cons, List.drop_zero, List.reverse_cons, List.reverse_nil, List.nil_append, List.cons_append, List.length_cons, List.length_nil, List.replicate_succ, List.replicate_zero, Nat.reduceAdd, Nat.reduceSub, Nat.reduceLeDiff, Nat.reduceLT, Nat.reduceEqDiff, Nat.reduceMul, Nat.zero_add, Nat.add_zero, Nat.le_refl, Nat.zero_le, Int.reduceEq, Int.reduceToNat, Int.toNat_natCast, Int.reduceNeg, Int.reduceAdd, Int.reduceSub, Int.reduceMul, Int.reduceLT, Int.reduceLE, Int.reduceDiv, Int.reduceMod, Bool.false_eq_true, ↓reduceIte, true_and, and_true, implies_true, forall_const, true_or, or_true, or_false, false_or, not_true_eq_false, not_false_eq_true, false_implies, Prod.mk.injEq, Fin.val_zero, Fin.val_one, Fin.isValue, Fin.reduceFinMk, Fin.val_two, mR_uI, mK_uI, mN_uI, mI_uR, mK_uR, mN_uR, mR_uC, mK_uC, mN_uC, Option.some.injEq, Sum.inl.injEq, Sum.inr.injEq, decide_true, decide_false, Bool.or_false, Bool.false_or, Bool.or_true, Bool.true_or, Nat.reduceBEq, beq_self_eq_true, show tb 2 = tb_2 from rfl, tb_2, tb_2_0]
  (repeat' (first | with_reducible apply And.intro | with_reducible intro _)) <;> (try omega)
  all_goals first | exact hL | exact hL2 | rfl
set_option maxRecDepth 100000 in
set_option maxHeartbeats 4000000 in
theorem e_newD (X : CX) (M : Mem) (hz : mZ M = 12) (hc : cl M 11 = arr 6 2) : Ev X y_Display_init (1, 360) [aR (some 11)] M (fun r M' => r = none ∧ Laid M M' 11 13) := by
  have big : 900000 < BIG := Nat.le_of_ble_eq_true rfl
  have c0 := Cn.st hz
  have c1 := c0.nN 20 360
  have c2 := (c1.nR 11 0 (some 12)).nS (mS M + 360)
  have k1 : mK (uN M 20 360) 11 = 6 := by rw [c1.k, if_neg (by omega), hc]; rfl
  have hL : Laid M (uS (uR (uN M 20 360) 11 0 (some 12)) (mS M + 360)) 11 13 := by
    refine ⟨fun a h1 h2 => ?_, fun a h => ?_⟩
    · rw [c2.e a]
      rcases (show a = 11 ∨ a = 12 by omega) with rfl | rfl
      · rw [if_pos rfl, if_neg (by omega), hc]
        refine cel_ext rfl rfl (fun j => ?_) (fun j => (SI_0 (a := 11) (by decide) (by decide) j).symm)
        exact (SRR_o (a := 11) (by decide) j).symm
      · rw [if_neg (by omega), if_pos rfl, LC_a (a := 12) (n := 360) (by decide) (by decide)]
    · rw [c2.e a, if_neg (by omega), if_neg (by omega)]
  refine Ev_of mcd_4 mok_4 (by decide) rfl (Nat.le_of_ble_eq_true rfl) ?_
  rw [show yl 4 = 1 from rfl]
  refine G_w (pf0_ok X) LK_4 (fun i => false) 20 _ _ _ _ ?_
  simp only [f_0, f_s, f_iconst, f_bipush, f_sipush, f_ldc, f_ldc_w, f_ldc2_w, f_ldI, f_ldL, f_ldA, f_iload, f_iload_n, f_lload, f_lload_n, f_aload, f_aload_n, f_istore, f_istore_n, f_lstore, f_lstore_n, f_astore, f_astore_n, f_iinc, f_icI, f_iadd, f_isub, f_imul, f_idiv, f_irem, f_iand, f_ior, f_ixor, f_ishl, f_ishr, f_iushr, f_i2l, f_i2b, f_i2s, f_ladd, f_lmul, f_lcmp, f_dupI, f_dupR, f_dup2, f_pop, f_goto, f_if, f_icmp, f_tab, f_ts0, f_ts1, f_getI, f_getZ, f_getR, f_putI, f_putR, f_gets, f_iald, f_bald, f_aald, f_iast, f_bast, f_aast, f_alen, f_new, f_newa, f_anew, f_virt, f_stat0, f_stat1, f_spec0, f_spec1, f_spec9, f_copy, f_max, f_min, f_cV1, f_cV0, f_cS1, f_cS0, f_iret, f_lret, f_vret, f_kG, pf0, cIg, inR, lget, lset, lset2, clr, entL, cnd, psh, catS, tsw, List.take_succ_cons, List.take_zero, List.drop_succ_cons, List.drop_zero, List.reverse_cons, List.reverse_nil, List.nil_append, List.cons_append, List.length_cons, List.length_nil, List.replicate_succ, List.replicate_zero, Nat.reduceAdd, Nat.reduceSub, Nat.reduceLeDiff, Nat.reduceLT, Nat.reduceEqDiff, Nat.reduceMul, Nat.zero_add, Nat.add_zero, Nat.le_refl, Nat.zero_le, Int.reduceEq, Int.reduceToNat, Int.toNat_natCast, Int.reduceNeg, Int.reduceAdd, Int.reduceSub, Int.reduceMul, Int.reduceLT, Int.reduceLE, Int.reduceDiv, Int.reduceMod, Bool.false_eq_true, ↓reduceIte, true_and, and_true, implies_true, forall_const, true_or, or_true, or_false, false_or, not_true_eq_false, not_false_eq_true, false_implies, Prod.mk.injEq, Fin.val_zero, Fin.val_one, Fin.isValue, Fin.reduceFinMk, Fin.val_two, mR_uI, mK_uI, mN_uI, mI_uR, mK_uR, mN_uR, mR_uC, mK_uC, mN_uC, Option.some.injEq, Sum.inl.injEq, Sum.inr.injEq, decide_true, decide_false, Bool.or_false, Bool.false_or, Bool.or_true, Bool.true_or, Nat.reduceBEq, beq_self_eq_true, show tb 4 = tb_4 from rfl, tb_4, tb_4_0, mZ_uN, mS_uN, mZ_uR, mS_uR, hz, k1]
  (repeat' (first | with_reducible apply And.intro | with_reducible intro _)) <;> (try omega)
  all_goals first | exact hL | rfl
set_option maxRecDepth 100000 in
set_option maxHeartbeats 4000000 in
theorem e_newT (X : CX) (M : Mem) (p most : Nat) (hp : p < 1000) (hm : most ≤ 30) (hz : mZ M = p + 1) (hk : SK p = 1 ∧ SN0 p = 3 ∧ SK (p + 1) = 20 ∧ SN0 (p + 1) = most) (hc : cl M p = arr 1 3) : Ev X y_Text_init (1, 30) [aR (some p), aI most] M (fun r M' => r = none ∧ Laid M M' p (p + 2)) := by
  have big : 900000 < BIG := Nat.le_of_ble_eq_true rfl
  obtain ⟨q1, q2, q3, q4⟩ := hk
  have c0 := (Cn.st hz).nI p 2 (-1)
  have c1 := c0.nN 20 most
  have c2 := (c1.nR p 0 (some (p + 1))).nS (mS M + 30)
  have k0 : mK M p = 1 := congrArg (fun c : Cel => c.1) hc
  have k1 : mK (uN (uI M p 2 (-1)) 20 most) p = 1 := by rw [c1.k, if_neg (by omega), if_pos rfl, hc]; rfl
  have hL : Laid M (uS (uR (uN (uI M p 2 (-1)) 20 most) p 0 (some (p + 1))) (mS M + 30)) p (p + 2) := by
    refine ⟨fun a h1 h2 => ?_, fun a h => ?_⟩
    · rw [c2.e a]
      rcases (show a = p ∨ a = p + 1 by omega) with rfl | rfl
      · rw [if_pos rfl, if_neg (by omega), if_pos rfl, hc]
        refine cel_ext q1.symm q2.symm (fun j => (SRR_o (Or.inl q1) j).symm) (fun j => ?_)
        show (if j = 2 then -1 else 0) = SI a j
        unfold SI
        by_cases j2 : j = 2
        · rw [if_pos j2, if_pos ⟨q1, j2⟩]
        · rw [if_neg j2, if_neg (fun h => j2 h.2), if_neg (fun h => by omega)]
      · rw [if_neg (by omega), if_pos rfl, LC_a q3 q4]
    · rw [c2.e a, if_neg (by omega), if_neg (by omega), if_neg (by omega)]
  refine Ev_of mcd_5 mok_5 (by decide) rfl (Nat.le_of_ble_eq_true rfl) ?_
  rw [show yl 5 = 2 from rfl]
  refine G_w (pf0_ok X) LK_5 (fun i => false) 20 _ _ _ _ ?_
  simp only [f_0, f_s, f_iconst, f_bipush, f_sipush, f_ldc, f_ldc_w, f_ldc2_w, f_ldI, f_ldL, f_ldA, f_iload, f_iload_n, f_lload, f_lload_n, f_aload, f_aload_n, f_istore, f_istore_n, f_lstore, f_lstore_n, f_astore, f_astore_n, f_iinc, f_icI, f_iadd, f_isub, f_imul, f_idiv, f_irem, f_iand, f_ior, f_ixor, f_ishl, f_ishr, f_iushr, f_i2l, f_i2b, f_i2s, f_ladd, f_lmul, f_lcmp, f_dupI, f_dupR, f_dup2, f_pop, f_goto, f_if, f_icmp, f_tab, f_ts0, f_ts1, f_getI, f_getZ, f_getR, f_putI, f_putR, f_gets, f_iald, f_bald, f_aald, f_iast, f_bast, f_aast, f_alen, f_new, f_newa, f_anew, f_virt, f_stat0, f_stat1, f_spec0, f_spec1, f_spec9, f_copy, f_max, f_min, f_cV1, f_cV0, f_cS1, f_cS0, f_iret, f_lret, f_vret, f_kG, pf0, cIg, inR, lget, lset, lset2, clr, entL, cnd, psh, catS, tsw, List.take_succ_cons, List.take_zero, List.drop_succ_cons, List.drop_zero, List.reverse_cons, List.reverse_nil, List.nil_append, List.cons_append, List.length_cons, List.length_nil, List.replicate_succ, List.replicate_zero, Nat.reduceAdd, Nat.reduceSub, Nat.reduceLeDiff, Nat.reduceLT, Nat.reduceEqDiff, Nat.reduceMul, Nat.zero_add, Nat.add_zero, Nat.le_refl, Nat.zero_le, Int.reduceEq, Int.reduceToNat, Int.toNat_natCast, Int.reduceNeg, Int.reduceAdd, Int.reduceSub, Int.reduceMul, Int.reduceLT, Int.reduceLE, Int.reduceDiv, Int.reduceMod, Bool.false_eq_true, ↓reduceIte, true_and, and_true, implies_true, forall_const, true_or, or_true, or_false, false_or, not_true_eq_false, not_false_eq_true, false_implies, Prod.mk.injEq, Fin.val_zero, Fin.val_one, Fin.isValue, Fin.reduceFinMk, Fin.val_two, mR_uI, mK_uI, mN_uI, mI_uR, mK_uR, mN_uR, mR_uC, mK_uC, mN_uC, Option.some.injEq, Sum.inl.injEq, Sum.inr.injEq, decide_true, decide_false, Bool.or_false, Bool.false_or, Bool.or_true, Bool.true_or, Nat.reduceBEq, beq_self_eq_true, show tb 5 = tb_5 from rfl, tb_5, tb_5_0, mZ_uN, mS_uN, mZ_uR, mS_uR, mZ_uI, mS_uI, hz, k0, k1]
  (repeat' (first | with_reducible apply And.intro | with_reducible intro _)) <;> (try omega)
  all_goals first | exact hL | rfl
set_option maxRecDepth 100000 in
set_option maxHeartbeats 4000000 in
theorem e_newS (X : CX) (M : Mem) (p : Nat) (hp : p < 1000) (hz : mZ M = p + 1) (hk : SK p = 7 ∧ SN0 p = 3 ∧ SK (p + 1) = 20 ∧ SN0 (p + 1) = 60) (hc : cl M p = arr 7 3) : Ev X y_Sheet_init (1, 60) [aR (some p)] M (fun r M' => r = none ∧ Laid M M' p (p + 2)) := by
  have big : 900000 < BIG := Nat.le_of_ble_eq_true rfl
  obtain ⟨q1, q2, q3, q4⟩ := hk
  have c0 := Cn.st hz
  have c1 := c0.nN 20 60
  have c2 := ((c1.nR p 0 (some (p + 1))).nI p 1 (-1)).nS (mS M + 60)
  have k1 : mK (uN M 20 60) p = 7 := by rw [c1.k, if_neg (by omega), hc]; rfl
  have hL : Laid M (uS (uI (uR (uN M 20 60) p 0 (some (p + 1))) p 1 (-1)) (mS M + 60)) p (p + 2) := by
    refine ⟨fun a h1 h2 => ?_, fun a h => ?_⟩
    · rw [c2.e a]
      rcases (show a = p ∨ a = p + 1 by omega) with rfl | rfl
      · rw [if_pos rfl, if_pos rfl, if_neg (by omega), hc]
        refine cel_ext q1.symm q2.symm (fun j => (SRR_o (Or.inr (Or.inl q1)) j).symm) (fun j => ?_)
        show (if j = 1 then -1 else 0) = SI a j
        unfold SI
        by_cases j2 : j = 1
        · rw [if_pos j2, if_neg (fun h => by omega), if_pos ⟨q1, j2⟩]
        · rw [if_neg j2, if_neg (fun h => by omega), if_neg (fun h => j2 h.2)]
      · rw [if_neg (by omega), if_neg (by omega), if_pos rfl, LC_a q3 q4]
    · rw [c2.e a, if_neg (by omega), if_neg (by omega), if_neg (by omega)]
  refine Ev_of mcd_6 mok_6 (by decide) rfl (Nat.le_of_ble_eq_true rfl) ?_
  rw [show yl 6 = 1 from rfl]
  refine G_w (pf0_ok X) LK_6 (fun i => false) 20 _ _ _ _ ?_
  simp only [f_0, f_s, f_iconst, f_bipush, f_sipush, f_ldc, f_ldc_w, f_ldc2_w, f_ldI, f_ldL, f_ldA, f_iload, f_iload_n, f_lload, f_lload_n, f_aload, f_aload_n, f_istore, f_istore_n, f_lstore, f_lstore_n, f_astore, f_astore_n, f_iinc, f_icI, f_iadd, f_isub, f_imul, f_idiv, f_irem, f_iand, f_ior, f_ixor, f_ishl, f_ishr, f_iushr, f_i2l, f_i2b, f_i2s, f_ladd, f_lmul, f_lcmp, f_dupI, f_dupR, f_dup2, f_pop, f_goto, f_if, f_icmp, f_tab, f_ts0, f_ts1, f_getI, f_getZ, f_getR, f_putI, f_putR, f_gets, f_iald, f_bald, f_aald, f_iast, f_bast, f_aast, f_alen, f_new, f_newa, f_anew, f_virt, f_stat0, f_stat1, f_spec0, f_spec1, f_spec9, f_copy, f_max, f_min, f_cV1, f_cV0, f_cS1, f_cS0, f_iret, f_lret, f_vret, f_kG, pf0, cIg, inR, lget, lset, lset2, clr, entL, cnd, psh, catS, tsw, List.take_succ_cons, List.take_zero, List.drop_succ_cons, List.drop_zero, List.reverse_cons, List.reverse_nil, List.nil_append, List.cons_append, List.length_cons, List.length_nil, List.replicate_succ, List.replicate_zero, Nat.reduceAdd, Nat.reduceSub, Nat.reduceLeDiff, Nat.reduceLT, Nat.reduceEqDiff, Nat.reduceMul, Nat.zero_add, Nat.add_zero, Nat.le_refl, Nat.zero_le, Int.reduceEq, Int.reduceToNat, Int.toNat_natCast, Int.reduceNeg, Int.reduceAdd, Int.reduceSub, Int.reduceMul, Int.reduceLT, Int.reduceLE, Int.reduceDiv, Int.reduceMod, Bool.false_eq_true, ↓reduceIte, true_and, and_true, implies_true, forall_const, true_or, or_true, or_false, false_or, not_true_eq_false, not_false_eq_true, false_implies, Prod.mk.injEq, Fin.val_zero, Fin.val_one, Fin.isValue, Fin.reduceFinMk, Fin.val_two, mR_uI, mK_uI, mN_uI, mI_uR, mK_uR, mN_uR, mR_uC, mK_uC, mN_uC, Option.some.injEq, Sum.inl.injEq, Sum.inr.injEq, decide_true, decide_false, Bool.or_false, Bool.false_or, Bool.or_true, Bool.true_or, Nat.reduceBEq, beq_self_eq_true, show tb 6 = tb_6 from rfl, tb_6, tb_6_0, mZ_uN, mS_uN, mZ_uR, mS_uR, mZ_uI, mS_uI, hz, k1]
  (repeat' (first | with_reducible apply And.intro | with_reducible intro _)) <;> (try omega)
  all_goals first | exact hL | rfl
/-! rows -/
def okRw (r n : Nat) : Prop := (r = 59 ∧ n = 100) ∨ ((r = 362 ∨ r = 442) ∧ n = 24)
theorem row_p1 : (List.range 100).all (fun i => decide (SK (61 + 3 * i) = 2)) = true := by decide +kernel
theorem row_p2 : (List.range 24).all (fun i => decide (SK (364 + 3 * i) = 2) && decide (SK (444 + 3 * i) = 2)) = true := by decide +kernel
theorem row_f {r n : Nat} (h : okRw r n) : SK r = 4 ∧ SN0 r = 2 ∧ SK (r + 1) = 32 ∧ SN0 (r + 1) = n ∧ (∀ i, i < n → SK (r + 2 + 3 * i) = 2) ∧ (∀ k, SRR (r + 1) k = if k < n then some (r + 2 + 3 * k) else none) ∧ r < 500 ∧ n ≤ 100 ∧ 24 ≤ n := by
  rcases h with ⟨rfl, rfl⟩ | ⟨rfl | rfl, rfl⟩
  · exact ⟨by decide, by decide, by decide, by decide, fun i hi => of_decide_eq_true (List.all_eq_true.mp row_p1 i (List.mem_range.mpr hi)), fun k => rfl, by omega, by omega, by omega⟩
  · refine ⟨by decide, by decide, by decide, by decide, fun i hi => ?_, fun k => rfl, by omega, by omega, by omega⟩
    have h9 := List.all_eq_true.mp row_p2 i (List.mem_range.mpr hi)
    simp only [Bool.and_eq_true, decide_eq_true_eq] at h9
    exact h9.1
  · refine ⟨by decide, by decide, by decide, by decide, fun i hi => ?_, fun k => rfl, by omega, by omega, by omega⟩
    have h9 := List.all_eq_true.mp row_p2 i (List.mem_range.mpr hi)
    simp only [Bool.and_eq_true, decide_eq_true_eq] at h9
    exact h9.2
theorem LC_r {r n : Nat} (h : okRw r n) : LC r = upC (arr 4 2) 0 (some (r + 1)) ∧ LC (r + 1) = (32, n, fun k => if k < n then some (r + 2 + 3 * k) else none, fun _ => 0) := by
  obtain ⟨f1, f2, f3, f4, f5, f6, f7, f8, f9⟩ := row_f h
  exact ⟨cel_ext f1 f2 (fun k => SRR_o (Or.inr (Or.inr (Or.inl f1))) k) (fun j => SI_0 (a := r) (by omega) (by omega) j), cel_ext f3 f4 f6 (fun j => SI_0 (a := r + 1) (by omega) (by omega) j)⟩
/-- a row with i of its polynomials made -/
def Rf (M : Mem) (r n i : Nat) (a : Nat) : Cel := if a = r then upC (arr 4 2) 0 (some (r + 1)) else if a = r + 1 then (32, n, fun k => if k < i then some (r + 2 + 3 * k) else none, fun _ => 0) else if r + 2 ≤ a ∧ a < r + 2 + 3 * i then LC a else cl M a
set_option maxRecDepth 100000 in
set_option maxHeartbeats 4000000 in
theorem e_newR (X : CX) (M : Mem) (r n : Nat) (h : okRw r n) (hz : mZ M = r + 1) (hc : cl M r = arr 4 2) : Ev X y_Row_init (1 + 3 * n, 66 * n) [aR (some r), aI n] M (fun q M' => q = none ∧ Laid M M' r (r + 2 + 3 * n)) := by
  have big : 900000 < BIG := Nat.le_of_ble_eq_true rfl
  obtain ⟨f1, f2, f3, f4, f5, f6, f7, f8, f9⟩ := row_f h
  have loop : ∀ (d i : Nat) (M1 : Mem), i + d = n → Cn M1 (r + 2 + 3 * i) (Rf M r n i) → mS M1 = mS M + n + 65 * i → G X y_Row_init (mZ M, mS M, 1 + 3 * n, 66 * n) 8 [some (aR (some r)), some (aI n), some (aI i)] [] M1 (fun q M' => q = none ∧ Laid M M' r (r + 2 + 3 * n)) := by
    intro d
    induction d with
    | zero =>
      intro i M1 hi hC hS
      have hin : i = n := by omega
      subst hin
      have hge : (i : Int) ≤ (i : Int) := Int.le_refl _
      have hL : Laid M (uS M1 (mS M + 66 * i)) r (r + 2 + 3 * i) := by
        obtain ⟨l1, l2⟩ := LC_r h
        have c9 := hC.nS (mS M + 66 * i)
        refine ⟨fun a h1 h2 => ?_, fun a h9 => ?_⟩
        · rw [c9.e a]
          unfold Rf
          by_cases a1 : a = r
          · rw [if_pos a1, a1, l1]
          · by_cases a2 : a = r + 1
            · rw [if_neg a1, if_pos a2, a2, l2]
            · rw [if_neg a1, if_neg a2, if_pos (by omega)]
        · rw [c9.e a]
          unfold Rf
          rw [if_neg (by omega), if_neg (by omega), if_neg (by omega)]
      have hz1 := hC.1
      refine G_w (pf0_ok X) LK_7 (fun i => false) 20 _ _ _ _ ?_
      simp only [f_0, f_s, f_iconst, f_bipush, f_sipush, f_ldc, f_ldc_w, f_ldc2_w, f_ldI, f_ldL, f_ldA, f_iload, f_iload_n, f_lload, f_lload_n, f_aload, f_aload_n, f_istore, f_istore_n, f_lstore, f_lstore_n, f_astore, f_astore_n, f_iinc, f_icI, f_iadd, f_isub, f_imul, f_idiv, f_irem, f_iand, f_ior, f_ixor, f_ishl, f_ishr, f_iushr, f_i2l, f_i2b, f_i2s, f_ladd, f_lmul, f_lcmp, f_dupI, f_dupR, f_dup2, f_pop, f_goto, f_if, f_icmp, f_tab, f_ts0, f_ts1, f_getI, f_getZ, f_getR, f_putI, f_putR, f_gets, f_iald, f_bald, f_aald, f_iast, f_bast, f_aast, f_alen, f_new, f_newa, f_anew, f_virt, f_stat0, f_stat1, f_spec0, f_spec1, f_spec9, f_copy, f_max, f_min, f_cV1, f_cV0, f_cS1, f_cS0, f_iret, f_lret, f_vret, f_kG, pf0, cIg, inR, lget, lset, lset2, clr, entL, cnd, psh, catS, tsw, List.take_succ_cons, List.take_zero, List.drop_succ_cons, List.drop_zero, List.reverse_cons, List.reverse_nil, List.nil_append, List.cons_append, List.length_cons, List.length_nil, List.replicate_succ, List.replicate_zero, Nat.reduceAdd, Nat.reduceSub, Nat.reduceLeDiff, Nat.reduceLT, Nat.reduceEqDiff, Nat.reduceMul, Nat.zero_add, Nat.add_zero, Nat.le_refl, Nat.zero_le, Int.reduceEq, Int.reduceToNat, Int.toNat_natCast, Int.reduceNeg, Int.reduceAdd, Int.reduceSub, Int.reduceMul, Int.reduceLT, Int.reduceLE, Int.reduceDiv, Int.reduceMod, Bool.false_eq_true, ↓reduceIte, true_and, and_true, implies_true, forall_const, true_or, or_true, or_false, false_or, not_true_eq_false, not_false_eq_true, false_implies, Prod.mk.injEq, Fin.val_zero, Fin.val_one, Fin.isValue, Fin.reduceFinMk, Fin.val_two, mR_uI, mK_uI, mN_uI, mI_uR, mK_uR, mN_uR, mR_uC, mK_uC, mN_uC, Option.some.injEq, Sum.inl.injEq, Sum.inr.injEq, decide_true, decide_false, Bool.or_false, Bool.false_or, Bool.or_true, Bool.true_or, Nat.reduceBEq, beq_self_eq_true, show tb 7 = tb_7 from rfl, tb_7, tb_7_0, hge, hz1]
      (repeat' (first | with_reducible apply And.intro | with_reducible intro _)) <;> (try omega)
      all_goals first | exact hL | rfl
    | succ d ih =>
      intro i M1 hi hC hS
      have hge : ¬ (n : Int) ≤ (i : Int) := by omega
      have hz1 := hC.1
      have k0 : mK M1 r = 4 := by rw [hC.k, Rf, if_pos rfl]; rfl
      have r0 : mR M1 r 0 = some (r + 1) := by rw [hC.r, Rf, if_pos rfl]; rfl
      have kn : mK (uN M1 2 5) r = 4 := by rw [mK_uN, if_neg (by omega)]; exact k0
      refine G_w (pf0_ok X) LK_7 (fun i => false) 20 _ _ _ _ ?_
      simp only [f_0, f_s, f_iconst, f_bipush, f_sipush, f_ldc, f_ldc_w, f_ldc2_w, f_ldI, f_ldL, f_ldA, f_iload, f_iload_n, f_lload, f_lload_n, f_aload, f_aload_n, f_istore, f_istore_n, f_lstore, f_lstore_n, f_astore, f_astore_n, f_iinc, f_icI, f_iadd, f_isub, f_imul, f_idiv, f_irem, f_iand, f_ior, f_ixor, f_ishl, f_ishr, f_iushr, f_i2l, f_i2b, f_i2s, f_ladd, f_lmul, f_lcmp, f_dupI, f_dupR, f_dup2, f_pop, f_goto, f_if, f_icmp, f_tab, f_ts0, f_ts1, f_getI, f_getZ, f_getR, f_putI, f_putR, f_gets, f_iald, f_bald, f_aald, f_iast, f_bast, f_aast, f_alen, f_new, f_newa, f_anew, f_virt, f_stat0, f_stat1, f_spec0, f_spec1, f_spec9, f_copy, f_max, f_min, f_cV1, f_cV0, f_cS1, f_cS0, f_iret, f_lret, f_vret, f_kG, pf0, cIg, inR, lget, lset, lset2, clr, entL, cnd, psh, catS, tsw, List.take_succ_cons, List.take_zero, List.drop_succ_cons, List.drop_zero, List.reverse_cons, List.reverse_nil, List.nil_append, List.cons_append, List.length_cons, List.length_nil, List.replicate_succ, List.replicate_zero, Nat.reduceAdd, Nat.reduceSub, Nat.reduceLeDiff, Nat.reduceLT, Nat.reduceEqDiff, Nat.reduceMul, Nat.zero_add, Nat.add_zero, Nat.le_refl, Nat.zero_le, Int.reduceEq, Int.reduceToNat, Int.toNat_natCast, Int.reduceNeg, Int.reduceAdd, Int.reduceSub, Int.reduceMul, Int.reduceLT, Int.reduceLE, Int.reduceDiv, Int.reduceMod, Bool.false_eq_true, ↓reduceIte, true_and, and_true, implies_true, forall_const, true_or, or_true, or_false, false_or, not_true_eq_false, not_false_eq_true, false_implies, Prod.mk.injEq, Fin.val_zero, Fin.val_one, Fin.isValue, Fin.reduceFinMk, Fin.val_two, mR_uI, mK_uI, mN_uI, mI_uR, mK_uR, mN_uR, mR_uC, mK_uC, mN_uC, Option.some.injEq, Sum.inl.injEq, Sum.inr.injEq, decide_true, decide_false, Bool.or_false, Bool.false_or, Bool.or_true, Bool.true_or, Nat.reduceBEq, beq_self_eq_true, show tb 7 = tb_7 from rfl, tb_7, tb_7_0, mZ_uN, mS_uN, hge, hz1, k0, r0]
      (repeat' (first | with_reducible apply And.intro | with_reducible intro _)) <;> (try omega)
      refine ⟨(2, 60), ⟨by simp only []; omega, by simp only []; omega⟩, Ev_mono (e_newP X (uN M1 2 5) (r + 2 + 3 * i) (by omega) (by rw [mZ_uN, hz1]) (f5 i (by omega)) (by rw [cl_uN, if_pos hz1.symm])) (fun q M2 hr z2 s2 => ?_)⟩
      obtain ⟨rfl, hL2⟩ := hr
      rw [mZ_uN, hz1] at z2
      rw [mS_uN] at s2
      have c2 := hC.lay (by omega) hL2 z2
      have k1 : mK M2 (r + 1) = 32 := by rw [c2.k, if_neg (by omega), Rf, if_neg (by omega), if_pos rfl]
      have n1 : mN M2 (r + 1) = n := by rw [c2.l, if_neg (by omega), Rf, if_neg (by omega), if_pos rfl]
      have k2 : mK M2 (r + 2 + 3 * i) = 2 := by rw [c2.k, if_pos (by omega)]; exact f5 i (by omega)
      have c3 := (c2.nR (r + 1) i (some (r + 2 + 3 * i)))
      have c4 : Cn (uR M2 (r + 1) i (some (r + 2 + 3 * i))) (r + 2 + 3 * (i + 1)) (Rf M r n (i + 1)) := by
        refine ⟨by rw [c3.1]; omega, fun a => ?_⟩
        rw [c3.e a]
        by_cases a2 : a = r + 1
        · subst a2
          rw [if_pos rfl, if_neg (by omega), Rf, Rf, if_neg (by omega), if_pos rfl, if_neg (by omega), if_pos rfl]
          refine cel_ext rfl rfl (fun k => ?_) (fun j => rfl)
          show (if k = i then some (r + 2 + 3 * i) else if k < i then some (r + 2 + 3 * k) else none) = if k < i + 1 then some (r + 2 + 3 * k) else none
          by_cases ki : k = i
          · rw [if_pos ki, if_pos (by omega), ki]
          · rw [if_neg ki]
            by_cases k2 : k < i
            · rw [if_pos k2, if_pos (by omega)]
            · rw [if_neg k2, if_neg (by omega)]
        · rw [if_neg a2]
          by_cases a1 : a = r
          · rw [if_neg (by omega), Rf, Rf, if_pos a1, if_pos a1]
          · by_cases a3 : r + 2 + 3 * i ≤ a ∧ a < r + 2 + 3 * i + 3
            · rw [if_pos a3, Rf, if_neg a1, if_neg a2, if_pos (by omega)]
            · rw [if_neg a3, Rf, Rf, if_neg a1, if_neg a2, if_neg a1, if_neg a2]
              by_cases a4 : r + 2 ≤ a ∧ a < r + 2 + 3 * i
              · rw [if_pos a4, if_pos (by omega)]
              · rw [if_neg a4, if_neg (by omega)]
      have h9 := ih (i + 1) _ (by omega) c4 (by rw [mS_uR]; omega)
      simp only [f_kG, psh, Nat.reduceAdd]
      refine G_w (pf0_ok X) LK_7 (fun i => i == 8) 20 _ _ _ _ ?_
      simp only [f_0, f_s, f_iconst, f_bipush, f_sipush, f_ldc, f_ldc_w, f_ldc2_w, f_ldI, f_ldL, f_ldA, f_iload, f_iload_n, f_lload, f_lload_n, f_aload, f_aload_n, f_istore, f_istore_n, f_lstore, f_lstore_n, f_astore, f_astore_n, f_iinc, f_icI, f_iadd, f_isub, f_imul, f_idiv, f_irem, f_iand, f_ior, f_ixor, f_ishl, f_ishr, f_iushr, f_i2l, f_i2b, f_i2s, f_ladd, f_lmul, f_lcmp, f_dupI, f_dupR, f_dup2, f_pop, f_goto, f_if, f_icmp, f_tab, f_ts0, f_ts1, f_getI, f_getZ, f_getR, f_putI, f_putR, f_gets, f_iald, f_bald, f_aald, f_iast, f_bast, f_aast, f_alen, f_new, f_newa, f_anew, f_virt, f_stat0, f_stat1, f_spec0, f_spec1, f_spec9, f_copy, f_max, f_min, f_cV1, f_cV0, f_cS1, f_cS0, f_iret, f_lret, f_vret, f_kG, pf0, cIg, inR, lget, lset, lset2, clr, entL, cnd, psh, catS, tsw, List.take_succ_cons, List.take_zero, List.drop_succ_cons, List.drop_zero, List.reverse_cons, List.reverse_nil, List.nil_append, List.cons_append, List.length_cons, List.length_nil, List.replicate_succ, List.replicate_zero, Nat.reduceAdd, Nat.reduceSub, Nat.reduceLeDiff, Nat.reduceLT, Nat.reduceEqDiff, Nat.reduceMul, Nat.zero_add, Nat.add_zero, Nat.le_refl, Nat.zero_le, Int.reduceEq, Int.reduceToNat, Int.toNat_natCast, Int.reduceNeg, Int.reduceAdd, Int.reduceSub, Int.reduceMul, Int.reduceLT, Int.reduceLE, Int.reduceDiv, Int.reduceMod, Bool.false_eq_true, ↓reduceIte, true_and, and_true, implies_true, forall_const, true_or, or_true, or_false, false_or, not_true_eq_false, not_false_eq_true, false_implies, Prod.mk.injEq, Fin.val_zero, Fin.val_one, Fin.isValue, Fin.reduceFinMk, Fin.val_two, mR_uI, mK_uI, mN_uI, mI_uR, mK_uR, mN_uR, mR_uC, mK_uC, mN_uC, Option.some.injEq, Sum.inl.injEq, Sum.inr.injEq, decide_true, decide_false, Bool.or_false, Bool.false_or, Bool.or_true, Bool.true_or, Nat.reduceBEq, beq_self_eq_true, show tb 7 = tb_7 from rfl, tb_7, tb_7_0, k1, n1, k2]
      (repeat' (first | with_reducible apply And.intro | with_reducible intro _)) <;> (try omega)
      all_goals exact h9
  have c0 := Cn.st hz
  have c1 := c0.nN 32 n
  have c2 := c1.nR r 0 (some (r + 1))
  have k1 : mK (uN M 32 n) r = 4 := by rw [c1.k, if_neg (by omega), hc]; rfl
  have c3 : Cn (uR (uN M 32 n) r 0 (some (r + 1))) (r + 2 + 3 * 0) (Rf M r n 0) := by
    refine ⟨c2.1, fun a => ?_⟩
    rw [c2.e a]
    by_cases a1 : a = r
    · rw [if_pos a1, if_neg (by omega), Rf, if_pos a1, hc]
    · rw [if_neg a1, Rf, if_neg a1]
      by_cases a2 : a = r + 1
      · rw [if_pos a2, if_pos a2]
        refine cel_ext rfl rfl (fun k => ?_) (fun j => rfl)
        show none = if k < 0 then some (r + 2 + 3 * k) else none
        rw [if_neg (by omega)]
      · rw [if_neg a2, if_neg a2, if_neg (by omega)]
  have h9 := loop n 0 _ (by omega) c3 (by rw [mS_uR, mS_uN]; omega)
  rw [hz] at h9
  refine Ev_of mcd_7 mok_7 (by decide) rfl (Nat.le_of_ble_eq_true rfl) ?_
  rw [show yl 7 = 3 from rfl]
  refine G_w (pf0_ok X) LK_7 (fun i => i == 8) 20 _ _ _ _ ?_
  simp only [f_0, f_s, f_iconst, f_bipush, f_sipush, f_ldc, f_ldc_w, f_ldc2_w, f_ldI, f_ldL, f_ldA, f_iload, f_iload_n, f_lload, f_lload_n, f_aload, f_aload_n, f_istore, f_istore_n, f_lstore, f_lstore_n, f_astore, f_astore_n, f_iinc, f_icI, f_iadd, f_isub, f_imul, f_idiv, f_irem, f_iand, f_ior, f_ixor, f_ishl, f_ishr, f_iushr, f_i2l, f_i2b, f_i2s, f_ladd, f_lmul, f_lcmp, f_dupI, f_dupR, f_dup2, f_pop, f_goto, f_if, f_icmp, f_tab, f_ts0, f_ts1, f_getI, f_getZ, f_getR, f_putI, f_putR, f_gets, f_iald, f_bald, f_aald, f_iast, f_bast, f_aast, f_alen, f_new, f_newa, f_anew, f_virt, f_stat0, f_stat1, f_spec0, f_spec1, f_spec9, f_copy, f_max, f_min, f_cV1, f_cV0, f_cS1, f_cS0, f_iret, f_lret, f_vret, f_kG, pf0, cIg, inR, lget, lset, lset2, clr, entL, cnd, psh, catS, tsw, List.take_succ_cons, List.take_zero, List.drop_succ_cons, List.drop_zero, List.reverse_cons, List.reverse_nil, List.nil_append, List.cons_append, List.length_cons, List.length_nil, List.replicate_succ, List.replicate_zero, Nat.reduceAdd, Nat.reduceSub, Nat.reduceLeDiff, Nat.reduceLT, Nat.reduceEqDiff, Nat.reduceMul, Nat.zero_add, Nat.add_zero, Nat.le_refl, Nat.zero_le, Int.reduceEq, Int.reduceToNat, Int.toNat_natCast, Int.reduceNeg, Int.reduceAdd, Int.reduceSub, Int.reduceMul, Int.reduceLT, Int.reduceLE, Int.reduceDiv, Int.reduceMod, Bool.false_eq_true, ↓reduceIte, true_and, and_true, implies_true, forall_const, true_or, or_true, or_false, false_or, not_true_eq_false, not_false_eq_true, false_implies, Prod.mk.injEq, Fin.val_zero, Fin.val_one, Fin.isValue, Fin.reduceFinMk, Fin.val_two, mR_uI, mK_uI, mN_uI, mI_uR, mK_uR, mN_uR, mR_uC, mK_uC, mN_uC, Option.some.injEq, Sum.inl.injEq, Sum.inr.injEq, decide_true, decide_false, Bool.or_false, Bool.false_or, Bool.or_true, Bool.true_or, Nat.reduceBEq, beq_self_eq_true, show tb 7 = tb_7 from rfl, tb_7, tb_7_0, mZ_uN, mS_uN, mZ_uR, mS_uR, hz, k1]
  (repeat' (first | with_reducible apply And.intro | with_reducible intro _)) <;> (try omega)
  all_goals exact h9
