/-! the class's polynomials: a list of (number, product) in a polynomial's cells -/
abbrev Po : Type := List (Int × Int)
def PL (M : Mem) (p : Nat) (L : Po) : Prop := mI M p 2 = L.length ∧ L.length ≤ 30 ∧ ∀ j t, L[j]? = some t → mI M (p + 1) j = t.1 ∧ mI M (p + 2) j = t.2
def okT (t : Int × Int) : Prop := (1 ≤ t.1 ∧ t.1 ≤ 30) ∧ isPr t.2
def okP (L : Po) : Prop := ∀ t ∈ L, okT t
/-- whether no exponent comes above 31 -/
def brT (t : Int × Int) (f : Int) : Bool := decide (ex t.2 0 + ex f 0 ≤ 31 ∧ ex t.2 1 + ex f 1 ≤ 31 ∧ ex t.2 2 + ex f 2 ≤ 31)
def brs (L : Po) (f : Int) : Bool := L.all (fun t => brT t f)
theorem drop_cons {α : Type} {L : List α} {j : Nat} {t : α} {L2 : List α} (h : L.drop j = t :: L2) : L[j]? = some t ∧ L.drop (j + 1) = L2 ∧ j < L.length := by
  have h1 : L[j]? = some t := by
    have h9 := congrArg (fun l => l[0]?) h
    simpa using h9
  have h2 : j < L.length := (List.getElem?_eq_some_iff.mp h1).1
  refine ⟨h1, ?_, h2⟩
  have := congrArg List.tail h
  simpa using this
theorem drop_nil {α : Type} {L : List α} {j : Nat} (h : L.drop j = []) (hj : j ≤ L.length) : j = L.length := by
  have := congrArg List.length h
  simp at this
  omega
set_option maxRecDepth 100000 in
set_option maxHeartbeats 4000000 in
theorem e_bears (X : CX) (M : Mem) (p : Nat) (f : Int) (L : Po) (hE : Ext M) (hp : PA M p) (hL : PL M p L) (ok : okP L) (hf : isPr f) : Ev X y_Polynomial_bears (0, 0) [aR (some p), aI f] M (fun r M' => r = some (aI (if brs L f = true then 1 else 0)) ∧ M' = M) := by
  obtain ⟨p1, p2, p3, p4, p5, p6, p7⟩ := hp
  obtain ⟨l1, l2, l3⟩ := hL
  have loop : ∀ (L2 : Po) (j : Nat) (v3 : Option AV), L.drop j = L2 → j ≤ L.length → G X y_Polynomial_bears (mZ M, mS M, 0, 0) 2 [some (aR (some p)), some (aI f), some (aI j), v3] [] M (fun r M' => r = some (aI (if brs L2 f = true then 1 else 0)) ∧ M' = M) := by
    intro L2
    induction L2 with
    | nil =>
      intro j v3 hd hj
      have hj2 := drop_nil hd hj
      refine G_w (pfb_ok X) LK_53 (fun i => i == 2) 60 _ _ _ _ ?_
      simp only [f_0, f_s, f_iconst, f_bipush, f_sipush, f_ldc, f_ldc_w, f_ldc2_w, f_ldI, f_ldL, f_ldA, f_iload, f_iload_n, f_lload, f_lload_n, f_aload, f_aload_n, f_istore, f_istore_n, f_lstore, f_lstore_n, f_astore, f_astore_n, f_iinc, f_icI, f_iadd, f_isub, f_imul, f_idiv, f_irem, f_iand, f_ior, f_ixor, f_ishl, f_ishr, f_iushr, f_i2l, f_i2b, f_i2s, f_ladd, f_lmul, f_lcmp, f_dupI, f_dupR, f_dup2, f_pop, f_goto, f_if, f_icmp, f_tab, f_ts0, f_ts1, f_getI, f_getZ, f_getR, f_putI, f_putR, f_gets, f_iald, f_bald, f_aald, f_iast, f_bast, f_aast, f_alen, f_new, f_newa, f_anew, f_virt, f_stat0, f_stat1, f_spec0, f_spec1, f_spec9, f_copy, f_max, f_min, f_cV1, f_cV0, f_cS1, f_cS0, f_iret, f_lret, f_vret, f_kG, pf0, cIg, inR, lget, lset, lset2, clr, entL, cnd, psh, catS, tsw, List.take_succ_cons, List.take_zero, List.drop_succ_cons, List.drop_zero, List.reverse_cons, List.reverse_nil, List.nil_append, List.cons_append, List.length_cons, List.length_nil, List.replicate_succ, List.replicate_zero, Nat.reduceAdd, Nat.reduceSub, Nat.reduceLeDiff, Nat.reduceLT, Nat.reduceEqDiff, Nat.reduceMul, Nat.zero_add, Nat.add_zero, Nat.le_refl, Nat.zero_le, Int.reduceEq, Int.reduceToNat, Int.toNat_natCast, Int.reduceNeg, Int.reduceAdd, Int.reduceSub, Int.reduceMul, Int.reduceLT, Int.reduceLE, Int.reduceDiv, Int.reduceMod, Bool.false_eq_true, ↓reduceIte, true_and, and_true, implies_true, forall_const, true_or, or_true, or_false, false_or, not_true_eq_false, not_false_eq_true, false_implies, Prod.mk.injEq, Fin.val_zero, Fin.val_one, Fin.isValue, Fin.reduceFinMk, Fin.val_two, mR_uI, mK_uI, mN_uI, mI_uR, mK_uR, mN_uR, mR_uC, mK_uC, mN_uC, Option.some.injEq, Sum.inl.injEq, Sum.inr.injEq, decide_true, decide_false, Bool.or_false, Bool.false_or, Bool.or_true, Bool.true_or, Nat.reduceBEq, beq_self_eq_true, show tb 53 = tb_53 from rfl, tb_53, tb_53_0, pfb, pfb_b, pfb_c, pfb_v, pfa_b, pfa_c, pfa_v, p1, l1]
      exact ⟨fun _ => rfl, fun h => by omega⟩
    | cons t L2 ih =>
      intro j v3 hd hj
      obtain ⟨h1, h2, h3⟩ := drop_cons hd
      obtain ⟨h4, h5⟩ := l3 j t h1
      have hok := (ok t (List.mem_of_getElem? h1)).2
      have ih := fun v3 => ih (j + 1) v3 h2 (by omega)
      refine G_w (pfb_ok X) LK_53 (fun i => i == 2) 90 _ _ _ _ ?_
      simp only [f_0, f_s, f_iconst, f_bipush, f_sipush, f_ldc, f_ldc_w, f_ldc2_w, f_ldI, f_ldL, f_ldA, f_iload, f_iload_n, f_lload, f_lload_n, f_aload, f_aload_n, f_istore, f_istore_n, f_lstore, f_lstore_n, f_astore, f_astore_n, f_iinc, f_icI, f_iadd, f_isub, f_imul, f_idiv, f_irem, f_iand, f_ior, f_ixor, f_ishl, f_ishr, f_iushr, f_i2l, f_i2b, f_i2s, f_ladd, f_lmul, f_lcmp, f_dupI, f_dupR, f_dup2, f_pop, f_goto, f_if, f_icmp, f_tab, f_ts0, f_ts1, f_getI, f_getZ, f_getR, f_putI, f_putR, f_gets, f_iald, f_bald, f_aald, f_iast, f_bast, f_aast, f_alen, f_new, f_newa, f_anew, f_virt, f_stat0, f_stat1, f_spec0, f_spec1, f_spec9, f_copy, f_max, f_min, f_cV1, f_cV0, f_cS1, f_cS0, f_iret, f_lret, f_vret, f_kG, pf0, cIg, inR, lget, lset, lset2, clr, entL, cnd, psh, catS, tsw, List.take_succ_cons, List.take_zero, List.drop_succ_cons, List.drop_zero, List.reverse_cons, List.reverse_nil, List.nil_append, List.cons_append, List.length_cons, List.length_nil, List.replicate_succ, List.replicate_zero, Nat.reduceAdd, Nat.reduceSub, Nat.reduceLeDiff, Nat.reduceLT, Nat.reduceEqDiff, Nat.reduceMul, Nat.zero_add, Nat.add_zero, Nat.le_refl, Nat.zero_le, Int.reduceEq, Int.reduceToNat, Int.toNat_natCast, Int.reduceNeg, Int.reduceAdd, Int.reduceSub, Int.reduceMul, Int.reduceLT, Int.reduceLE, Int.reduceDiv, Int.reduceMod, Bool.false_eq_true, ↓reduceIte, true_and, and_true, implies_true, forall_const, true_or, or_true, or_false, false_or, not_true_eq_false, not_false_eq_true, false_implies, Prod.mk.injEq, Fin.val_zero, Fin.val_one, Fin.isValue, Fin.reduceFinMk, Fin.val_two, mR_uI, mK_uI, mN_uI, mI_uR, mK_uR, mN_uR, mR_uC, mK_uC, mN_uC, Option.some.injEq, Sum.inl.injEq, Sum.inr.injEq, decide_true, decide_false, Bool.or_false, Bool.false_or, Bool.or_true, Bool.true_or, Nat.reduceBEq, beq_self_eq_true, show tb 53 = tb_53 from rfl, tb_53, tb_53_0, pfb, pfb_b, pfb_c, pfb_v, pfa_b, pfa_c, pfa_v, p1, p3, p5, p7, l1, h5, hE, hf, hok]
      have hb : brs (t :: L2) f = true ↔ (ex t.2 0 + ex f 0 ≤ 31 ∧ ex t.2 1 + ex f 1 ≤ 31 ∧ ex t.2 2 + ex f 2 ≤ 31) ∧ brs L2 f = true := by simp [brs, brT]
      have b0 := ex_b t.2 0; have b1 := ex_b t.2 1; have b2 := ex_b t.2 2; have c0 := ex_b f 0; have c1 := ex_b f 1; have c2 := ex_b f 2
      (repeat' (first | with_reducible apply And.intro | with_reducible intro _)) <;> (try omega)
      · refine G_mono (ih (some (aI 3))) (fun r M' h => ⟨?_, h.2⟩)
        rw [h.1]
        by_cases h9 : brs L2 f = true
        · rw [if_pos h9, if_pos (hb.mpr ⟨by omega, h9⟩)]
        · rw [if_neg h9, if_neg (fun h8 => h9 (hb.mp h8).2)]
      all_goals rw [if_neg (fun h8 => absurd (hb.mp h8).1 (by omega))]
  refine Ev_of mcd_53 mok_53 (by decide) rfl (Nat.le_of_ble_eq_true rfl) ?_
  rw [show yl 53 = 4 from rfl]
  refine G_w (pfb_ok X) LK_53 (fun i => i == 2) 4 _ _ _ _ ?_
  simp only [f_0, f_s, f_iconst, f_bipush, f_sipush, f_ldc, f_ldc_w, f_ldc2_w, f_ldI, f_ldL, f_ldA, f_iload, f_iload_n, f_lload, f_lload_n, f_aload, f_aload_n, f_istore, f_istore_n, f_lstore, f_lstore_n, f_astore, f_astore_n, f_iinc, f_icI, f_iadd, f_isub, f_imul, f_idiv, f_irem, f_iand, f_ior, f_ixor, f_ishl, f_ishr, f_iushr, f_i2l, f_i2b, f_i2s, f_ladd, f_lmul, f_lcmp, f_dupI, f_dupR, f_dup2, f_pop, f_goto, f_if, f_icmp, f_tab, f_ts0, f_ts1, f_getI, f_getZ, f_getR, f_putI, f_putR, f_gets, f_iald, f_bald, f_aald, f_iast, f_bast, f_aast, f_alen, f_new, f_newa, f_anew, f_virt, f_stat0, f_stat1, f_spec0, f_spec1, f_spec9, f_copy, f_max, f_min, f_cV1, f_cV0, f_cS1, f_cS0, f_iret, f_lret, f_vret, f_kG, pf0, cIg, inR, lget, lset, lset2, clr, entL, cnd, psh, catS, tsw, List.take_succ_cons, List.take_zero, List.drop_succ_cons, List.drop_zero, List.reverse_cons, List.reverse_nil, List.nil_append, List.cons_append, List.length_cons, List.length_nil, List.replicate_succ, List.replicate_zero, Nat.reduceAdd, Nat.reduceSub, Nat.reduceLeDiff, Nat.reduceLT, Nat.reduceEqDiff, Nat.reduceMul, Nat.zero_add, Nat.add_zero, Nat.le_refl, Nat.zero_le, Int.reduceEq, Int.reduceToNat, Int.toNat_natCast, Int.reduceNeg, Int.reduceAdd, Int.reduceSub, Int.reduceMul, Int.reduceLT, Int.reduceLE, Int.reduceDiv, Int.reduceMod, Bool.false_eq_true, ↓reduceIte, true_and, and_true, implies_true, forall_const, true_or, or_true, or_false, false_or, not_true_eq_false, not_false_eq_true, false_implies, Prod.mk.injEq, Fin.val_zero, Fin.val_one, Fin.isValue, Fin.reduceFinMk, Fin.val_two, mR_uI, mK_uI, mN_uI, mI_uR, mK_uR, mN_uR, mR_uC, mK_uC, mN_uC, Option.some.injEq, Sum.inl.injEq, Sum.inr.injEq, decide_true, decide_false, Bool.or_false, Bool.false_or, Bool.or_true, Bool.true_or, Nat.reduceBEq, beq_self_eq_true, show tb 53 = tb_53 from rfl, tb_53, tb_53_0, pfb, pfb_b, pfb_c, pfb_v, pfa_b, pfa_c, pfa_v]
  exact loop L 0 none rfl (Nat.zero_le _)
