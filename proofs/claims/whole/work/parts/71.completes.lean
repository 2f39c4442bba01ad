/-! completes -/
/-- what comes to the pile: values that stand as the order has them -/
def filM (lo : Int) : List Po → Nat → List Po → List Po
  | [], _, pl => pl
  | L :: Ls, g, pl => if (g : Int) = lo ∨ L = [] then filM lo Ls (g + 1) pl else filM lo Ls (g + 1) (pl ++ [mon L])
abbrev CP : Nat → Prop := fun a => 7 ≤ a
abbrev CF : Nat → Prop := fun k => 10 ≤ k ∧ k ≤ 13
abbrev CC : Nat → Prop := fun a => a = 527 ∨ a = 528 ∨ a = 529
/-- how completes ends -/
def CE (M : Mem) (o : Int) (res : Int × Nat × List Mb) (r : Option AV) (M' : Mem) : Prop := r = none ∧ Fr M M' CP CF CC ∧ mI M' 521 13 = res.1 ∧ mI M' 521 12 = res.2.1 ∧ RBx M' res.2.2 ∧ BI o res.2.2
theorem BI_nil (o : Int) : BI o [] := ⟨fun b hb => by (cases hb), List.nodup_nil, fun b hb => by (cases hb)⟩
theorem RBx_nil {M : Mem} (h : mI M 521 10 = 0) : RBx M [] := ⟨⟨h, by simp, fun j b hj => by simp at hj⟩, fun j b hj => by simp at hj, fun j b hj => by simp at hj⟩
theorem RBx_uf {M : Mem} {bs : List Mb} {k : Nat} {v : Int} (h : RBx M bs) (hk : k ≠ 10) : RBx (uI M 521 k v) bs := h.fr ((Fr.rf M NN (fun i => i = k) NN).uf rfl) (by omega) (fun _ _ _ h => h) ⟨fun h => h, fun h => h⟩
theorem RP_uf {M : Mem} {pl : List Po} {k : Nat} {v : Int} (h : RP M pl) (hk : k ≠ 11) : RP (uI M 521 k v) pl := h.fr ((Fr.rf M NN (fun i => i = k) NN).uf rfl) (by omega) (fun _ _ h => h)
set_option maxRecDepth 100000 in
set_option maxHeartbeats 4000000 in
theorem w_fin (X : CX) (M : Mem) (o lo : Int) (v2 : Option AV) (M1 : Mem) (rs : Int) (s : Nat) (bs : List Mb) (hs1 : Shp M1) (hF : Fr M M1 CP CF CC) (h13 : mI M1 521 13 = rs) (h12 : mI M1 521 12 = s) (hb : rs = 0 → RBx M1 bs ∧ BI o bs) : G X y_m_completes (mZ M, mS M, 0, 0) 86 [some (aR (some 521)), some (aI lo), v2] [] M1 (CE M o (rs, s, if rs = 0 then bs else [])) := by
  by_cases h0 : rs = 0
  · obtain ⟨b1, b2⟩ := hb h0
    have c1 := b1.1.1
    rw [if_pos h0]
    subst h0
    refine G_w (pfb_ok X) LK_133 (fun i => false) 20 _ _ _ _ ?_
    simp only [f_0, f_s, f_iconst, f_bipush, f_sipush, f_ldc, f_ldc_w, f_ldc2_w, f_ldI, f_ldL, f_ldA, f_iload, f_iload_n, f_lload, f_lload_n, f_aload, f_aload_n, f_istore, f_istore_n, f_lstore, f_lstore_n, f_astore, f_astore_n, f_iinc, f_icI, f_iadd, f_isub, f_imul, f_idiv, f_irem, f_iand, f_ior, f_ixor, f_ishl, f_ishr, f_iushr, f_i2l, f_i2b, f_i2s, f_ladd, f_lmul, f_lcmp, f_dupI, f_dupR, f_dup2, f_pop, f_goto, f_if, f_icmp, f_tab, f_ts0, f_ts1, f_getI, f_getZ, f_getR, f_putI, f_putR, f_gets, f_iald, f_bald, f_aald, f_iast, f_bast, f_aast, f_alen, f_new, f_newa, f_anew, f_virt, f_stat0, f_stat1, f_spec0, f_spec1, f_spec9, f_copy, f_max, f_min, f_cV1, f_cV0, f_cS1, f_cS0, f_iret, f_lret, f_vret, f_kG, pf0, cIg, inR, lget, lset, lset2, clr, entL, cnd, psh, catS, tsw, List.take_succ_cons, List.take_zero, List.drop_succ_cons, List.drop_zero, List.reverse_cons, List.reverse_nil, List.nil_append, List.cons_append, List.length_cons, List.length_nil, List.replicate_succ, List.replicate_zero, Nat.reduceAdd, Nat.reduceSub, Nat.reduceLeDiff, Nat.reduceLT, Nat.reduceEqDiff, Nat.reduceMul, Nat.zero_add, Nat.add_zero, Nat.le_refl, Nat.zero_le, Int.reduceEq, Int.reduceToNat, Int.toNat_natCast, Int.reduceNeg, Int.reduceAdd, Int.reduceSub, Int.reduceMul, Int.reduceLT, Int.reduceLE, Int.reduceDiv, Int.reduceMod, Bool.false_eq_true, ↓reduceIte, true_and, and_true, implies_true, forall_const, true_or, or_true, or_false, false_or, not_true_eq_false, not_false_eq_true, false_implies, Prod.mk.injEq, Fin.val_zero, Fin.val_one, Fin.isValue, Fin.reduceFinMk, Fin.val_two, mR_uI, mK_uI, mN_uI, mI_uR, mK_uR, mN_uR, mR_uC, mK_uC, mN_uC, Option.some.injEq, Sum.inl.injEq, Sum.inr.injEq, decide_true, decide_false, Bool.or_false, Bool.false_or, Bool.or_true, Bool.true_or, Nat.reduceBEq, beq_self_eq_true, show tb 133 = tb_133 from rfl, tb_133, tb_133_0, tb_133_1, tb_133_2, pfb, pfb_b, pfb_c, pfb_v, pfa_b, pfa_c, pfa_v, hs1.mk521, h13, c1]
    refine ⟨rfl, hF.uf (by unfold CF; omega), (mI_uI_nk (by omega)).trans h13, (mI_uI_nk (by omega)).trans h12, ?_, b2⟩
    have hF9 : Fr M1 (uI M1 521 10 bs.length) NN (fun i => i = 10) NN := (Fr.rf M1 NN (fun i => i = 10) NN).uf rfl
    refine ⟨⟨mI_uI_eq, b1.1.2.1, fun j b hj => ?_⟩, b1.2.1.fr hF9 (fun h => h), b1.2.2.fr hF9 (fun h => h)⟩
    have hj2 : j < bs.length := (List.getElem?_eq_some_iff.mp hj).1
    have := b1.1.2.1
    exact (b1.1.2.2 j b hj).fr hF9 (by omega) (fun h => h)
  · rw [if_neg h0]
    refine G_w (pfb_ok X) LK_133 (fun i => false) 20 _ _ _ _ ?_
    simp only [f_0, f_s, f_iconst, f_bipush, f_sipush, f_ldc, f_ldc_w, f_ldc2_w, f_ldI, f_ldL, f_ldA, f_iload, f_iload_n, f_lload, f_lload_n, f_aload, f_aload_n, f_istore, f_istore_n, f_lstore, f_lstore_n, f_astore, f_astore_n, f_iinc, f_icI, f_iadd, f_isub, f_imul, f_idiv, f_irem, f_iand, f_ior, f_ixor, f_ishl, f_ishr, f_iushr, f_i2l, f_i2b, f_i2s, f_ladd, f_lmul, f_lcmp, f_dupI, f_dupR, f_dup2, f_pop, f_goto, f_if, f_icmp, f_tab, f_ts0, f_ts1, f_getI, f_getZ, f_getR, f_putI, f_putR, f_gets, f_iald, f_bald, f_aald, f_iast, f_bast, f_aast, f_alen, f_new, f_newa, f_anew, f_virt, f_stat0, f_stat1, f_spec0, f_spec1, f_spec9, f_copy, f_max, f_min, f_cV1, f_cV0, f_cS1, f_cS0, f_iret, f_lret, f_vret, f_kG, pf0, cIg, inR, lget, lset, lset2, clr, entL, cnd, psh, catS, tsw, List.take_succ_cons, List.take_zero, List.drop_succ_cons, List.drop_zero, List.reverse_cons, List.reverse_nil, List.nil_append, List.cons_append, List.length_cons, List.length_nil, List.replicate_succ, List.replicate_zero, Nat.reduceAdd, Nat.reduceSub, Nat.reduceLeDiff, Nat.reduceLT, Nat.reduceEqDiff, Nat.reduceMul, Nat.zero_add, Nat.add_zero, Nat.le_refl, Nat.zero_le, Int.reduceEq, Int.reduceToNat, Int.toNat_natCast, Int.reduceNeg, Int.reduceAdd, Int.reduceSub, Int.reduceMul, Int.reduceLT, Int.reduceLE, Int.reduceDiv, Int.reduceMod, Bool.false_eq_true, ↓reduceIte, true_and, and_true, implies_true, forall_const, true_or, or_true, or_false, false_or, not_true_eq_false, not_false_eq_true, false_implies, Prod.mk.injEq, Fin.val_zero, Fin.val_one, Fin.isValue, Fin.reduceFinMk, Fin.val_two, mR_uI, mK_uI, mN_uI, mI_uR, mK_uR, mN_uR, mR_uC, mK_uC, mN_uC, Option.some.injEq, Sum.inl.injEq, Sum.inr.injEq, decide_true, decide_false, Bool.or_false, Bool.false_or, Bool.or_true, Bool.true_or, Nat.reduceBEq, beq_self_eq_true, show tb 133 = tb_133 from rfl, tb_133, tb_133_0, tb_133_1, tb_133_2, pfb, pfb_b, pfb_c, pfb_v, pfa_b, pfa_c, pfa_v, hs1.mk521, h13, h0]
    exact ⟨rfl, hF.uf (by unfold CF; omega), (mI_uI_nk (by omega)).trans h13, (mI_uI_nk (by omega)).trans h12, RBx_nil mI_uI_eq, BI_nil o⟩
set_option maxRecDepth 100000 in
set_option maxHeartbeats 4000000 in
theorem w_out (X : CX) (M : Mem) (o lo : Int) (v2 : Option AV) (M1 : Mem) (rs n : Int) (s : Nat) (hs1 : Shp M1) (hF : Fr M M1 CP CF CC) (h11 : mI M1 521 11 = n) (h13 : mI M1 521 13 = rs) (h12 : mI M1 521 12 = s) (h0 : rs ≠ 0) : G X y_m_completes (mZ M, mS M, 0, 0) 46 [some (aR (some 521)), some (aI lo), v2] [] M1 (CE M o (rs, s, [])) := by
  have hf := w_fin X M o lo v2 M1 rs s [] hs1 hF h13 h12 (fun h => absurd h h0)
  rw [if_neg h0] at hf
  refine G_w (pfb_ok X) LK_133 (fun i => i == 86) 20 _ _ _ _ ?_
  simp only [f_0, f_s, f_iconst, f_bipush, f_sipush, f_ldc, f_ldc_w, f_ldc2_w, f_ldI, f_ldL, f_ldA, f_iload, f_iload_n, f_lload, f_lload_n, f_aload, f_aload_n, f_istore, f_istore_n, f_lstore, f_lstore_n, f_astore, f_astore_n, f_iinc, f_icI, f_iadd, f_isub, f_imul, f_idiv, f_irem, f_iand, f_ior, f_ixor, f_ishl, f_ishr, f_iushr, f_i2l, f_i2b, f_i2s, f_ladd, f_lmul, f_lcmp, f_dupI, f_dupR, f_dup2, f_pop, f_goto, f_if, f_icmp, f_tab, f_ts0, f_ts1, f_getI, f_getZ, f_getR, f_putI, f_putR, f_gets, f_iald, f_bald, f_aald, f_iast, f_bast, f_aast, f_alen, f_new, f_newa, f_anew, f_virt, f_stat0, f_stat1, f_spec0, f_spec1, f_spec9, f_copy, f_max, f_min, f_cV1, f_cV0, f_cS1, f_cS0, f_iret, f_lret, f_vret, f_kG, pf0, cIg, inR, lget, lset, lset2, clr, entL, cnd, psh, catS, tsw, List.take_succ_cons, List.take_zero, List.drop_succ_cons, List.drop_zero, List.reverse_cons, List.reverse_nil, List.nil_append, List.cons_append, List.length_cons, List.length_nil, List.replicate_succ, List.replicate_zero, Nat.reduceAdd, Nat.reduceSub, Nat.reduceLeDiff, Nat.reduceLT, Nat.reduceEqDiff, Nat.reduceMul, Nat.zero_add, Nat.add_zero, Nat.le_refl, Nat.zero_le, Int.reduceEq, Int.reduceToNat, Int.toNat_natCast, Int.reduceNeg, Int.reduceAdd, Int.reduceSub, Int.reduceMul, Int.reduceLT, Int.reduceLE, Int.reduceDiv, Int.reduceMod, Bool.false_eq_true, ↓reduceIte, true_and, and_true, implies_true, forall_const, true_or, or_true, or_false, false_or, not_true_eq_false, not_false_eq_true, false_implies, Prod.mk.injEq, Fin.val_zero, Fin.val_one, Fin.isValue, Fin.reduceFinMk, Fin.val_two, mR_uI, mK_uI, mN_uI, mI_uR, mK_uR, mN_uR, mR_uC, mK_uC, mN_uC, Option.some.injEq, Sum.inl.injEq, Sum.inr.injEq, decide_true, decide_false, Bool.or_false, Bool.false_or, Bool.or_true, Bool.true_or, Nat.reduceBEq, beq_self_eq_true, show tb 133 = tb_133 from rfl, tb_133, tb_133_0, tb_133_1, tb_133_2, pfb, pfb_b, pfb_c, pfb_v, pfa_b, pfa_c, pfa_v, hs1.mk521, h11, h13, h0]
  (repeat' (first | with_reducible apply And.intro | with_reducible intro _)) <;> (try omega)
  all_goals exact hf
set_option maxRecDepth 100000 in
set_option maxHeartbeats 4000000 in
theorem w_loop (X : CX) (M : Mem) (o lo : Int) (hs : Shp M) (ho : mI M 521 0 = o) (ho2 : 0 ≤ o ∧ o ≤ 2) : ∀ (k s : Nat) (bs : List Mb) (pl : List Po) (M1 : Mem) (v2 : Option AV), s + k = 120 → BI o bs → PV o pl → RBx M1 bs → RP M1 pl → mI M1 521 13 = 0 → mI M1 521 12 = s → Fr M M1 CP CF CC → G X y_m_completes (mZ M, mS M, 0, 0) 46 [some (aR (some 521)), some (aI lo), v2] [] M1 (CE M o (cmL o k s bs pl)) := by
  intro k
  induction k with
  | zero =>
    intro s bs pl M1 v2 hsk hB hP hb hR h13 h12 hF
    have hs1 := hF.shp hs
    have c11 := hR.1
    rw [cmL]
    by_cases hpl : pl = []
    · rw [if_pos hpl]
      have hf := w_fin X M o lo v2 M1 0 s bs hs1 hF h13 h12 (fun _ => ⟨hb, hB⟩)
      rw [if_pos rfl] at hf
      have hle : ((pl.length : Nat) : Int) ≤ 0 := by rw [hpl]; exact Int.le_refl 0
      refine G_w (pfb_ok X) LK_133 (fun i => i == 86) 20 _ _ _ _ ?_
      simp only [f_0, f_s, f_iconst, f_bipush, f_sipush, f_ldc, f_ldc_w, f_ldc2_w, f_ldI, f_ldL, f_ldA, f_iload, f_iload_n, f_lload, f_lload_n, f_aload, f_aload_n, f_istore, f_istore_n, f_lstore, f_lstore_n, f_astore, f_astore_n, f_iinc, f_icI, f_iadd, f_isub, f_imul, f_idiv, f_irem, f_iand, f_ior, f_ixor, f_ishl, f_ishr, f_iushr, f_i2l, f_i2b, f_i2s, f_ladd, f_lmul, f_lcmp, f_dupI, f_dupR, f_dup2, f_pop, f_goto, f_if, f_icmp, f_tab, f_ts0, f_ts1, f_getI, f_getZ, f_getR, f_putI, f_putR, f_gets, f_iald, f_bald, f_aald, f_iast, f_bast, f_aast, f_alen, f_new, f_newa, f_anew, f_virt, f_stat0, f_stat1, f_spec0, f_spec1, f_spec9, f_copy, f_max, f_min, f_cV1, f_cV0, f_cS1, f_cS0, f_iret, f_lret, f_vret, f_kG, pf0, cIg, inR, lget, lset, lset2, clr, entL, cnd, psh, catS, tsw, List.take_succ_cons, List.take_zero, List.drop_succ_cons, List.drop_zero, List.reverse_cons, List.reverse_nil, List.nil_append, List.cons_append, List.length_cons, List.length_nil, List.replicate_succ, List.replicate_zero, Nat.reduceAdd, Nat.reduceSub, Nat.reduceLeDiff, Nat.reduceLT, Nat.reduceEqDiff, Nat.reduceMul, Nat.zero_add, Nat.add_zero, Nat.le_refl, Nat.zero_le, Int.reduceEq, Int.reduceToNat, Int.toNat_natCast, Int.reduceNeg, Int.reduceAdd, Int.reduceSub, Int.reduceMul, Int.reduceLT, Int.reduceLE, Int.reduceDiv, Int.reduceMod, Bool.false_eq_true, ↓reduceIte, true_and, and_true, implies_true, forall_const, true_or, or_true, or_false, false_or, not_true_eq_false, not_false_eq_true, false_implies, Prod.mk.injEq, Fin.val_zero, Fin.val_one, Fin.isValue, Fin.reduceFinMk, Fin.val_two, mR_uI, mK_uI, mN_uI, mI_uR, mK_uR, mN_uR, mR_uC, mK_uC, mN_uC, Option.some.injEq, Sum.inl.injEq, Sum.inr.injEq, decide_true, decide_false, Bool.or_false, Bool.false_or, Bool.or_true, Bool.true_or, Nat.reduceBEq, beq_self_eq_true, show tb 133 = tb_133 from rfl, tb_133, tb_133_0, tb_133_1, tb_133_2, pfb, pfb_b, pfb_c, pfb_v, pfa_b, pfa_c, pfa_v, hs1.mk521, c11, hle]
      exact hf
    · rw [if_neg hpl]
      have hpos := List.length_pos_iff.mpr hpl
      have hle : ¬ ((pl.length : Nat) : Int) ≤ 0 := by omega
      have hs120 : (s : Int) = 120 := by omega
      refine G_w (pfb_ok X) LK_133 (fun i => i == 46) 20 _ _ _ _ ?_
      simp only [f_0, f_s, f_iconst, f_bipush, f_sipush, f_ldc, f_ldc_w, f_ldc2_w, f_ldI, f_ldL, f_ldA, f_iload, f_iload_n, f_lload, f_lload_n, f_aload, f_aload_n, f_istore, f_istore_n, f_lstore, f_lstore_n, f_astore, f_astore_n, f_iinc, f_icI, f_iadd, f_isub, f_imul, f_idiv, f_irem, f_iand, f_ior, f_ixor, f_ishl, f_ishr, f_iushr, f_i2l, f_i2b, f_i2s, f_ladd, f_lmul, f_lcmp, f_dupI, f_dupR, f_dup2, f_pop, f_goto, f_if, f_icmp, f_tab, f_ts0, f_ts1, f_getI, f_getZ, f_getR, f_putI, f_putR, f_gets, f_iald, f_bald, f_aald, f_iast, f_bast, f_aast, f_alen, f_new, f_newa, f_anew, f_virt, f_stat0, f_stat1, f_spec0, f_spec1, f_spec9, f_copy, f_max, f_min, f_cV1, f_cV0, f_cS1, f_cS0, f_iret, f_lret, f_vret, f_kG, pf0, cIg, inR, lget, lset, lset2, clr, entL, cnd, psh, catS, tsw, List.take_succ_cons, List.take_zero, List.drop_succ_cons, List.drop_zero, List.reverse_cons, List.reverse_nil, List.nil_append, List.cons_append, List.length_cons, List.length_nil, List.replicate_succ, List.replicate_zero, Nat.reduceAdd, Nat.reduceSub, Nat.reduceLeDiff, Nat.reduceLT, Nat.reduceEqDiff, Nat.reduceMul, Nat.zero_add, Nat.add_zero, Nat.le_refl, Nat.zero_le, Int.reduceEq, Int.reduceToNat, Int.toNat_natCast, Int.reduceNeg, Int.reduceAdd, Int.reduceSub, Int.reduceMul, Int.reduceLT, Int.reduceLE, Int.reduceDiv, Int.reduceMod, Bool.false_eq_true, ↓reduceIte, true_and, and_true, implies_true, forall_const, true_or, or_true, or_false, false_or, not_true_eq_false, not_false_eq_true, false_implies, Prod.mk.injEq, Fin.val_zero, Fin.val_one, Fin.isValue, Fin.reduceFinMk, Fin.val_two, mR_uI, mK_uI, mN_uI, mI_uR, mK_uR, mN_uR, mR_uC, mK_uC, mN_uC, Option.some.injEq, Sum.inl.injEq, Sum.inr.injEq, decide_true, decide_false, Bool.or_false, Bool.false_or, Bool.or_true, Bool.true_or, Nat.reduceBEq, beq_self_eq_true, show tb 133 = tb_133 from rfl, tb_133, tb_133_0, tb_133_1, tb_133_2, pfb, pfb_b, pfb_c, pfb_v, pfa_b, pfa_c, pfa_v, hs1.mk521, c11, hle, h13, h12, hs120]
      exact w_out X M o lo v2 _ 1 pl.length s hs1 (hF.uf (by unfold CF; omega)) ((mI_uI_nk (by omega)).trans c11) mI_uI_eq ((mI_uI_nk (by omega)).trans h12) (by omega)
  | succ k ih =>
    intro s bs pl M1 v2 hsk hB hP hb hR h13 h12 hF
    have hs1 := hF.shp hs
    have c11 := hR.1
    rw [cmL]
    by_cases hpl : pl = []
    · rw [if_pos hpl]
      have hf := w_fin X M o lo v2 M1 0 s bs hs1 hF h13 h12 (fun _ => ⟨hb, hB⟩)
      rw [if_pos rfl] at hf
      have hle : ((pl.length : Nat) : Int) ≤ 0 := by rw [hpl]; exact Int.le_refl 0
      refine G_w (pfb_ok X) LK_133 (fun i => i == 86) 20 _ _ _ _ ?_
      simp only [f_0, f_s, f_iconst, f_bipush, f_sipush, f_ldc, f_ldc_w, f_ldc2_w, f_ldI, f_ldL, f_ldA, f_iload, f_iload_n, f_lload, f_lload_n, f_aload, f_aload_n, f_istore, f_istore_n, f_lstore, f_lstore_n, f_astore, f_astore_n, f_iinc, f_icI, f_iadd, f_isub, f_imul, f_idiv, f_irem, f_iand, f_ior, f_ixor, f_ishl, f_ishr, f_iushr, f_i2l, f_i2b, f_i2s, f_ladd, f_lmul, f_lcmp, f_dupI, f_dupR, f_dup2, f_pop, f_goto, f_if, f_icmp, f_tab, f_ts0, f_ts1, f_getI, f_getZ, f_getR, f_putI, f_putR, f_gets, f_iald, f_bald, f_aald, f_iast, f_bast, f_aast, f_alen, f_new, f_newa, f_anew, f_virt, f_stat0, f_stat1, f_spec0, f_spec1, f_spec9, f_copy, f_max, f_min, f_cV1, f_cV0, f_cS1, f_cS0, f_iret, f_lret, f_vret, f_kG, pf0, cIg, inR, lget, lset, lset2, clr, entL, cnd, psh, catS, tsw, List.take_succ_cons, List.take_zero, List.drop_succ_cons, List.drop_zero, List.reverse_cons, List.reverse_nil, List.nil_append, List.cons_append, List.length_cons, List.length_nil, List.replicate_succ, List.replicate_zero, Nat.reduceAdd, Nat.reduceSub, Nat.reduceLeDiff, Nat.reduceLT, Nat.reduceEqDiff, Nat.reduceMul, Nat.zero_add, Nat.add_zero, Nat.le_refl, Nat.zero_le, Int.reduceEq, Int.reduceToNat, Int.toNat_natCast, Int.reduceNeg, Int.reduceAdd, Int.reduceSub, Int.reduceMul, Int.reduceLT, Int.reduceLE, Int.reduceDiv, Int.reduceMod, Bool.false_eq_true, ↓reduceIte, true_and, and_true, implies_true, forall_const, true_or, or_true, or_false, false_or, not_true_eq_false, not_false_eq_true, false_implies, Prod.mk.injEq, Fin.val_zero, Fin.val_one, Fin.isValue, Fin.reduceFinMk, Fin.val_two, mR_uI, mK_uI, mN_uI, mI_uR, mK_uR, mN_uR, mR_uC, mK_uC, mN_uC, Option.some.injEq, Sum.inl.injEq, Sum.inr.injEq, decide_true, decide_false, Bool.or_false, Bool.false_or, Bool.or_true, Bool.true_or, Nat.reduceBEq, beq_self_eq_true, show tb 133 = tb_133 from rfl, tb_133, tb_133_0, tb_133_1, tb_133_2, pfb, pfb_b, pfb_c, pfb_v, pfa_b, pfa_c, pfa_v, hs1.mk521, c11, hle]
      exact hf
    · rw [if_neg hpl]
      have hpos := List.length_pos_iff.mpr hpl
      have hle : ¬ ((pl.length : Nat) : Int) ≤ 0 := by omega
      have hs120 : ¬ (s : Int) = 120 := by omega
      have hinv := cmS_inv hB hP hpl
      have hlow : lowI o pl < pl.length := lowF_lt o pl _ 0 1 hpos (by omega)
      obtain ⟨K, hK⟩ : ∃ K, pl[lowI o pl]? = some K := ⟨_, List.getElem?_eq_getElem hlow⟩
      have hKp := hP K (List.mem_of_getElem? hK)
      have hcm : cmS o bs pl = (if (nfF o bs 32768 0 K).1 = true then (if (nfF o bs 32768 0 K).2 = [] then (0, bs, pl.eraseIdx (lowI o pl)) else match admF (mon (nfF o bs 32768 0 K).2) bs (pl.eraseIdx (lowI o pl)) with
        | none => (3, bs, pl)
        | some (bs', pl') => prF bs' [] pl') else (2, bs, pl)) := by unfold cmS; rw [getD_at hK]; rfl
      refine G_w (pfb_ok X) LK_133 (fun i => i == 46) 30 _ _ _ _ ?_
      simp only [f_0, f_s, f_iconst, f_bipush, f_sipush, f_ldc, f_ldc_w, f_ldc2_w, f_ldI, f_ldL, f_ldA, f_iload, f_iload_n, f_lload, f_lload_n, f_aload, f_aload_n, f_istore, f_istore_n, f_lstore, f_lstore_n, f_astore, f_astore_n, f_iinc, f_icI, f_iadd, f_isub, f_imul, f_idiv, f_irem, f_iand, f_ior, f_ixor, f_ishl, f_ishr, f_iushr, f_i2l, f_i2b, f_i2s, f_ladd, f_lmul, f_lcmp, f_dupI, f_dupR, f_dup2, f_pop, f_goto, f_if, f_icmp, f_tab, f_ts0, f_ts1, f_getI, f_getZ, f_getR, f_putI, f_putR, f_gets, f_iald, f_bald, f_aald, f_iast, f_bast, f_aast, f_alen, f_new, f_newa, f_anew, f_virt, f_stat0, f_stat1, f_spec0, f_spec1, f_spec9, f_copy, f_max, f_min, f_cV1, f_cV0, f_cS1, f_cS0, f_iret, f_lret, f_vret, f_kG, pf0, cIg, inR, lget, lset, lset2, clr, entL, cnd, psh, catS, tsw, List.take_succ_cons, List.take_zero, List.drop_succ_cons, List.drop_zero, List.reverse_cons, List.reverse_nil, List.nil_append, List.cons_append, List.length_cons, List.length_nil, List.replicate_succ, List.replicate_zero, Nat.reduceAdd, Nat.reduceSub, Nat.reduceLeDiff, Nat.reduceLT, Nat.reduceEqDiff, Nat.reduceMul, Nat.zero_add, Nat.add_zero, Nat.le_refl, Nat.zero_le, Int.reduceEq, Int.reduceToNat, Int.toNat_natCast, Int.reduceNeg, Int.reduceAdd, Int.reduceSub, Int.reduceMul, Int.reduceLT, Int.reduceLE, Int.reduceDiv, Int.reduceMod, Bool.false_eq_true, ↓reduceIte, true_and, and_true, implies_true, forall_const, true_or, or_true, or_false, false_or, not_true_eq_false, not_false_eq_true, false_implies, Prod.mk.injEq, Fin.val_zero, Fin.val_one, Fin.isValue, Fin.reduceFinMk, Fin.val_two, mR_uI, mK_uI, mN_uI, mI_uR, mK_uR, mN_uR, mR_uC, mK_uC, mN_uC, Option.some.injEq, Sum.inl.injEq, Sum.inr.injEq, decide_true, decide_false, Bool.or_false, Bool.false_or, Bool.or_true, Bool.true_or, Nat.reduceBEq, beq_self_eq_true, show tb 133 = tb_133 from rfl, tb_133, tb_133_0, tb_133_1, tb_133_2, pfb, pfb_b, pfb_c, pfb_v, pfa_b, pfa_c, pfa_v, hs1.mk521, c11, hle, h13, h12, hs120]
      refine ⟨by omega, ?_⟩
      have hFs : Fr M1 (uI M1 521 12 (s + 1)) NN (fun i => i = 12) NN := (Fr.rf M1 NN (fun i => i = 12) NN).uf rfl
      have hFM := hF.tr (hFs.w (fun _ h => h.elim) (fun a h => by unfold CF; omega) (fun _ h => h.elim))
      have f12 : mI (uI M1 521 12 (s + 1)) 521 12 = ((s + 1 : Nat) : Int) := mI_uI_eq
      have f13 : mI (uI M1 521 12 (s + 1)) 521 13 = 0 := (mI_uI_nk (by omega)).trans h13
      have hb2 : RBx (uI M1 521 12 (s + 1)) bs := RBx_uf hb (by omega)
      have hR2 : RP (uI M1 521 12 (s + 1)) pl := RP_uf hR (by omega)
      generalize uI M1 521 12 (s + 1) = M2 at hFM f12 f13 hb2 hR2 ⊢
      have hs2 := hFM.shp hs
      have o2 := (hFM.2.1 0 (by unfold CF; omega)).trans ho
      refine Ev_mono (e_takesOff X M2 o pl hs2 o2 ho2 hR2 hP.ok hpl) (fun r M3 hr _ _ => ?_)
      obtain ⟨rfl, x1, x2, x3⟩ := hr
      rw [getD_at hK] at x1
      have hs3 := x3.shp hs2
      have hF3 := hFM.tr (x3.w (fun a h => by unfold CP; omega) (fun a h => by unfold CF; omega) (fun _ h => h.elim))
      have hb3 := hb2.fr x3 (by omega) (fun a h1 h2 => by omega) ⟨fun h => h, fun h => h⟩
      have o3 := (hF3.2.1 0 (by unfold CF; omega)).trans ho
      have g12 := (x3.2.1 12 (by omega)).trans f12
      have g13 := (x3.2.1 13 (by omega)).trans f13
      simp only [f_kG, psh, Nat.reduceAdd]
      refine G_w (pfb_ok X) LK_133 (fun i => i == 46) 30 _ _ _ _ ?_
      simp only [f_0, f_s, f_iconst, f_bipush, f_sipush, f_ldc, f_ldc_w, f_ldc2_w, f_ldI, f_ldL, f_ldA, f_iload, f_iload_n, f_lload, f_lload_n, f_aload, f_aload_n, f_istore, f_istore_n, f_lstore, f_lstore_n, f_astore, f_astore_n, f_iinc, f_icI, f_iadd, f_isub, f_imul, f_idiv, f_irem, f_iand, f_ior, f_ixor, f_ishl, f_ishr, f_iushr, f_i2l, f_i2b, f_i2s, f_ladd, f_lmul, f_lcmp, f_dupI, f_dupR, f_dup2, f_pop, f_goto, f_if, f_icmp, f_tab, f_ts0, f_ts1, f_getI, f_getZ, f_getR, f_putI, f_putR, f_gets, f_iald, f_bald, f_aald, f_iast, f_bast, f_aast, f_alen, f_new, f_newa, f_anew, f_virt, f_stat0, f_stat1, f_spec0, f_spec1, f_spec9, f_copy, f_max, f_min, f_cV1, f_cV0, f_cS1, f_cS0, f_iret, f_lret, f_vret, f_kG, pf0, cIg, inR, lget, lset, lset2, clr, entL, cnd, psh, catS, tsw, List.take_succ_cons, List.take_zero, List.drop_succ_cons, List.drop_zero, List.reverse_cons, List.reverse_nil, List.nil_append, List.cons_append, List.length_cons, List.length_nil, List.replicate_succ, List.replicate_zero, Nat.reduceAdd, Nat.reduceSub, Nat.reduceLeDiff, Nat.reduceLT, Nat.reduceEqDiff, Nat.reduceMul, Nat.zero_add, Nat.add_zero, Nat.le_refl, Nat.zero_le, Int.reduceEq, Int.reduceToNat, Int.toNat_natCast, Int.reduceNeg, Int.reduceAdd, Int.reduceSub, Int.reduceMul, Int.reduceLT, Int.reduceLE, Int.reduceDiv, Int.reduceMod, Bool.false_eq_true, ↓reduceIte, true_and, and_true, implies_true, forall_const, true_or, or_true, or_false, false_or, not_true_eq_false, not_false_eq_true, false_implies, Prod.mk.injEq, Fin.val_zero, Fin.val_one, Fin.isValue, Fin.reduceFinMk, Fin.val_two, mR_uI, mK_uI, mN_uI, mI_uR, mK_uR, mN_uR, mR_uC, mK_uC, mN_uC, Option.some.injEq, Sum.inl.injEq, Sum.inr.injEq, decide_true, decide_false, Bool.or_false, Bool.false_or, Bool.or_true, Bool.true_or, Nat.reduceBEq, beq_self_eq_true, show tb 133 = tb_133 from rfl, tb_133, tb_133_0, tb_133_1, tb_133_2, pfb, pfb_b, pfb_c, pfb_v, pfa_b, pfa_c, pfa_v, hs3.mk521]
      refine Ev_mono (e_isNormal X M3 o K bs hs3 o3 ho2 hb3.1 hb3.2.1 hB.1 x1 hKp.1 hKp.2.2) (fun r M4 hr _ _ => ?_)
      obtain ⟨y1, rfl, y2⟩ := hr
      have hs4 := y1.shp hs3
      have hF4 := hF3.tr (y1.w (fun a h => by unfold CP; omega) (fun a h => h.elim) (fun a h => Or.inr (Or.inl h)))
      have hb4 := hb3.fr y1 (fun h => h) (fun a h1 h2 => by omega) ⟨by omega, by omega⟩
      have hR4 := x2.fr y1 (fun h => h) (fun a ha => by omega)
      have i12 := (y1.2.1 12 (fun h => h)).trans g12
      have i13 := (y1.2.1 13 (fun h => h)).trans g13
      by_cases h1 : (nfF o bs 32768 0 K).1 = true
      · rw [if_pos h1] at hcm ⊢
        have z1 := y2 h1
        obtain ⟨n1, n2, n3⟩ := nf_low hB hKp h1
        have l7 := z1.1
        by_cases h2 : (nfF o bs 32768 0 K).2 = []
        · rw [if_pos h2] at hcm
          rw [hcm] at hinv ⊢
          rw [h2] at l7
          have l7 : mI M4 523 7 = 0 := l7
          have k4 : ((0 : Int) ≤ 0) = True := eq_true (Int.le_refl 0)
          simp only [f_kG, psh, Nat.reduceAdd]
          refine G_w (pfb_ok X) LK_133 (fun i => i == 46) 30 _ _ _ _ ?_
          simp only [f_0, f_s, f_iconst, f_bipush, f_sipush, f_ldc, f_ldc_w, f_ldc2_w, f_ldI, f_ldL, f_ldA, f_iload, f_iload_n, f_lload, f_lload_n, f_aload, f_aload_n, f_istore, f_istore_n, f_lstore, f_lstore_n, f_astore, f_astore_n, f_iinc, f_icI, f_iadd, f_isub, f_imul, f_idiv, f_irem, f_iand, f_ior, f_ixor, f_ishl, f_ishr, f_iushr, f_i2l, f_i2b, f_i2s, f_ladd, f_lmul, f_lcmp, f_dupI, f_dupR, f_dup2, f_pop, f_goto, f_if, f_icmp, f_tab, f_ts0, f_ts1, f_getI, f_getZ, f_getR, f_putI, f_putR, f_gets, f_iald, f_bald, f_aald, f_iast, f_bast, f_aast, f_alen, f_new, f_newa, f_anew, f_virt, f_stat0, f_stat1, f_spec0, f_spec1, f_spec9, f_copy, f_max, f_min, f_cV1, f_cV0, f_cS1, f_cS0, f_iret, f_lret, f_vret, f_kG, pf0, cIg, inR, lget, lset, lset2, clr, entL, cnd, psh, catS, tsw, List.take_succ_cons, List.take_zero, List.drop_succ_cons, List.drop_zero, List.reverse_cons, List.reverse_nil, List.nil_append, List.cons_append, List.length_cons, List.length_nil, List.replicate_succ, List.replicate_zero, Nat.reduceAdd, Nat.reduceSub, Nat.reduceLeDiff, Nat.reduceLT, Nat.reduceEqDiff, Nat.reduceMul, Nat.zero_add, Nat.add_zero, Nat.le_refl, Nat.zero_le, Int.reduceEq, Int.reduceToNat, Int.toNat_natCast, Int.reduceNeg, Int.reduceAdd, Int.reduceSub, Int.reduceMul, Int.reduceLT, Int.reduceLE, Int.reduceDiv, Int.reduceMod, Bool.false_eq_true, ↓reduceIte, true_and, and_true, implies_true, forall_const, true_or, or_true, or_false, false_or, not_true_eq_false, not_false_eq_true, false_implies, Prod.mk.injEq, Fin.val_zero, Fin.val_one, Fin.isValue, Fin.reduceFinMk, Fin.val_two, mR_uI, mK_uI, mN_uI, mI_uR, mK_uR, mN_uR, mR_uC, mK_uC, mN_uC, Option.some.injEq, Sum.inl.injEq, Sum.inr.injEq, decide_true, decide_false, Bool.or_false, Bool.false_or, Bool.or_true, Bool.true_or, Nat.reduceBEq, beq_self_eq_true, show tb 133 = tb_133 from rfl, tb_133, tb_133_0, tb_133_1, tb_133_2, pfb, pfb_b, pfb_c, pfb_v, pfa_b, pfa_c, pfa_v, hs4.mr1, hs4.mr2, hs4.mr3, hs4.mr4, hs4.mr5, hs4.mr14, hs4.mr15, hs4.mr16, hs4.mr18, hs4.mr19, hs4.mr20, hs4.mr21, hs4.mr22, hs4.mr23, hs4.mk521, hs4.mk522, hs4.mn522, hs4.mk523, hs4.mn523, hs4.mk524, hs4.mn524, hs4.mk525, hs4.mn525, hs4.mk526, hs4.mn526, hs4.mk527, hs4.mn527, hs4.mk528, hs4.mn528, hs4.mk529, hs4.mn529, hs4.mk530, hs4.mn530, hs4.mk531, hs4.mn531, hs4.mk532, hs4.mn532, hs4.mk533, hs4.mn533, hs4.mk534, hs4.mn534, hs4.mk535, hs4.mn535, l7, k4]
          obtain ⟨v1, v2⟩ := hinv rfl
          exact ⟨by omega, ih (s + 1) bs _ M4 _ (by omega) v1 v2 hb4 hR4 i13 i12 hF4⟩
        · rw [if_neg h2] at hcm
          have hl : ¬ mI M4 523 7 ≤ 0 := by rw [l7]; have := List.length_pos_iff.mpr h2; omega
          simp only [f_kG, psh, Nat.reduceAdd]
          refine G_w (pfb_ok X) LK_133 (fun i => i == 46) 30 _ _ _ _ ?_
          simp only [f_0, f_s, f_iconst, f_bipush, f_sipush, f_ldc, f_ldc_w, f_ldc2_w, f_ldI, f_ldL, f_ldA, f_iload, f_iload_n, f_lload, f_lload_n, f_aload, f_aload_n, f_istore, f_istore_n, f_lstore, f_lstore_n, f_astore, f_astore_n, f_iinc, f_icI, f_iadd, f_isub, f_imul, f_idiv, f_irem, f_iand, f_ior, f_ixor, f_ishl, f_ishr, f_iushr, f_i2l, f_i2b, f_i2s, f_ladd, f_lmul, f_lcmp, f_dupI, f_dupR, f_dup2, f_pop, f_goto, f_if, f_icmp, f_tab, f_ts0, f_ts1, f_getI, f_getZ, f_getR, f_putI, f_putR, f_gets, f_iald, f_bald, f_aald, f_iast, f_bast, f_aast, f_alen, f_new, f_newa, f_anew, f_virt, f_stat0, f_stat1, f_spec0, f_spec1, f_spec9, f_copy, f_max, f_min, f_cV1, f_cV0, f_cS1, f_cS0, f_iret, f_lret, f_vret, f_kG, pf0, cIg, inR, lget, lset, lset2, clr, entL, cnd, psh, catS, tsw, List.take_succ_cons, List.take_zero, List.drop_succ_cons, List.drop_zero, List.reverse_cons, List.reverse_nil, List.nil_append, List.cons_append, List.length_cons, List.length_nil, List.replicate_succ, List.replicate_zero, Nat.reduceAdd, Nat.reduceSub, Nat.reduceLeDiff, Nat.reduceLT, Nat.reduceEqDiff, Nat.reduceMul, Nat.zero_add, Nat.add_zero, Nat.le_refl, Nat.zero_le, Int.reduceEq, Int.reduceToNat, Int.toNat_natCast, Int.reduceNeg, Int.reduceAdd, Int.reduceSub, Int.reduceMul, Int.reduceLT, Int.reduceLE, Int.reduceDiv, Int.reduceMod, Bool.false_eq_true, ↓reduceIte, true_and, and_true, implies_true, forall_const, true_or, or_true, or_false, false_or, not_true_eq_false, not_false_eq_true, false_implies, Prod.mk.injEq, Fin.val_zero, Fin.val_one, Fin.isValue, Fin.reduceFinMk, Fin.val_two, mR_uI, mK_uI, mN_uI, mI_uR, mK_uR, mN_uR, mR_uC, mK_uC, mN_uC, Option.some.injEq, Sum.inl.injEq, Sum.inr.injEq, decide_true, decide_false, Bool.or_false, Bool.false_or, Bool.or_true, Bool.true_or, Nat.reduceBEq, beq_self_eq_true, show tb 133 = tb_133 from rfl, tb_133, tb_133_0, tb_133_1, tb_133_2, pfb, pfb_b, pfb_c, pfb_v, pfa_b, pfa_c, pfa_v, hs4.mr1, hs4.mr2, hs4.mr3, hs4.mr4, hs4.mr5, hs4.mr14, hs4.mr15, hs4.mr16, hs4.mr18, hs4.mr19, hs4.mr20, hs4.mr21, hs4.mr22, hs4.mr23, hs4.mk521, hs4.mk522, hs4.mn522, hs4.mk523, hs4.mn523, hs4.mk524, hs4.mn524, hs4.mk525, hs4.mn525, hs4.mk526, hs4.mn526, hs4.mk527, hs4.mn527, hs4.mk528, hs4.mn528, hs4.mk529, hs4.mn529, hs4.mk530, hs4.mn530, hs4.mk531, hs4.mn531, hs4.mk532, hs4.mn532, hs4.mk533, hs4.mn533, hs4.mk534, hs4.mn534, hs4.mk535, hs4.mn535, hl]
          refine ⟨by omega, ?_⟩
          have e7 : (7 : Int) = ((7 : Nat) : Int) := rfl
          rw [e7]
          refine Ev_mono (e_makesMonic X M4 7 _ hs4 z1 n1 h2 (by omega)) (fun r M5 hr _ _ => ?_)
          obtain ⟨rfl, u1, u2⟩ := hr
          have hs5 := u2.shp hs4
          have hF5 := hF4.tr (u2.w (fun a h => by unfold CP; omega) (fun a h => h.elim) (fun a h => h.elim))
          have hb5 := hb4.fr u2 (fun h => h) (fun a h1 h2 => by omega) ⟨fun h => h, fun h => h⟩
          have hR5 := hR4.fr u2 (fun h => h) (fun a ha => by omega)
          have j12 := (u2.2.1 12 (fun h => h)).trans i12
          have j13 := (u2.2.1 13 (fun h => h)).trans i13
          have hPe : PV o (pl.eraseIdx (lowI o pl)) := fun L hL => hP L (List.mem_of_mem_eraseIdx hL)
          have hhd : ∀ b ∈ bs, hd b.1 ≠ hd (mon (nfF o bs 32768 0 K).2) := by
            rw [mon_hd]
            cases hn : (nfF o bs 32768 0 K).2 with
            | nil => exact absurd hn h2
            | cons x xs => exact free_hd (n3 x (by rw [hn]; exact List.mem_cons_self))
          simp only [f_kG, psh, Nat.reduceAdd]
          refine G_w (pfb_ok X) LK_133 (fun i => i == 46) 30 _ _ _ _ ?_
          simp only [f_0, f_s, f_iconst, f_bipush, f_sipush, f_ldc, f_ldc_w, f_ldc2_w, f_ldI, f_ldL, f_ldA, f_iload, f_iload_n, f_lload, f_lload_n, f_aload, f_aload_n, f_istore, f_istore_n, f_lstore, f_lstore_n, f_astore, f_astore_n, f_iinc, f_icI, f_iadd, f_isub, f_imul, f_idiv, f_irem, f_iand, f_ior, f_ixor, f_ishl, f_ishr, f_iushr, f_i2l, f_i2b, f_i2s, f_ladd, f_lmul, f_lcmp, f_dupI, f_dupR, f_dup2, f_pop, f_goto, f_if, f_icmp, f_tab, f_ts0, f_ts1, f_getI, f_getZ, f_getR, f_putI, f_putR, f_gets, f_iald, f_bald, f_aald, f_iast, f_bast, f_aast, f_alen, f_new, f_newa, f_anew, f_virt, f_stat0, f_stat1, f_spec0, f_spec1, f_spec9, f_copy, f_max, f_min, f_cV1, f_cV0, f_cS1, f_cS0, f_iret, f_lret, f_vret, f_kG, pf0, cIg, inR, lget, lset, lset2, clr, entL, cnd, psh, catS, tsw, List.take_succ_cons, List.take_zero, List.drop_succ_cons, List.drop_zero, List.reverse_cons, List.reverse_nil, List.nil_append, List.cons_append, List.length_cons, List.length_nil, List.replicate_succ, List.replicate_zero, Nat.reduceAdd, Nat.reduceSub, Nat.reduceLeDiff, Nat.reduceLT, Nat.reduceEqDiff, Nat.reduceMul, Nat.zero_add, Nat.add_zero, Nat.le_refl, Nat.zero_le, Int.reduceEq, Int.reduceToNat, Int.toNat_natCast, Int.reduceNeg, Int.reduceAdd, Int.reduceSub, Int.reduceMul, Int.reduceLT, Int.reduceLE, Int.reduceDiv, Int.reduceMod, Bool.false_eq_true, ↓reduceIte, true_and, and_true, implies_true, forall_const, true_or, or_true, or_false, false_or, not_true_eq_false, not_false_eq_true, false_implies, Prod.mk.injEq, Fin.val_zero, Fin.val_one, Fin.isValue, Fin.reduceFinMk, Fin.val_two, mR_uI, mK_uI, mN_uI, mI_uR, mK_uR, mN_uR, mR_uC, mK_uC, mN_uC, Option.some.injEq, Sum.inl.injEq, Sum.inr.injEq, decide_true, decide_false, Bool.or_false, Bool.false_or, Bool.or_true, Bool.true_or, Nat.reduceBEq, beq_self_eq_true, show tb 133 = tb_133 from rfl, tb_133, tb_133_0, tb_133_1, tb_133_2, pfb, pfb_b, pfb_c, pfb_v, pfa_b, pfa_c, pfa_v, hs5.mk521]
          refine Ev_mono (e_enters X M5 (mon (nfF o bs 32768 0 K).2) bs (pl.eraseIdx (lowI o pl)) hs5 u1 ⟨mon_ok n1, mon_ne h2⟩ hb5 hR5 hB.ok hhd j13 hPe.ok) (fun r M6 hr _ _ => ?_)
          obtain ⟨rfl, q1, q2, q3⟩ := hr
          have hs6 := q1.shp hs5
          have hF6 := hF5.tr (q1.w (fun a h => h) (fun a h => by unfold EF at h; unfold CF; omega) (fun a h => by unfold EC at h; unfold CC; omega))
          have p12 := (q1.2.1 12 (by unfold EF; omega)).trans j12
          have hce : (cmS o bs pl).1 = (entF (mon (nfF o bs 32768 0 K).2) bs (pl.eraseIdx (lowI o pl))).1 ∧ ((cmS o bs pl).1 = 0 → cmS o bs pl = entF (mon (nfF o bs 32768 0 K).2) bs (pl.eraseIdx (lowI o pl))) := by
            rw [hcm]
            unfold entF
            cases ha : admF (mon (nfF o bs 32768 0 K).2) bs (pl.eraseIdx (lowI o pl)) with
            | none => exact ⟨rfl, fun h => by simp at h⟩
            | some x => exact ⟨rfl, fun _ => rfl⟩
          simp only [f_kG, psh, Nat.reduceAdd]
          refine G_w (pfb_ok X) LK_133 (fun i => i == 46) 30 _ _ _ _ ?_
          simp only [f_0, f_s, f_iconst, f_bipush, f_sipush, f_ldc, f_ldc_w, f_ldc2_w, f_ldI, f_ldL, f_ldA, f_iload, f_iload_n, f_lload, f_lload_n, f_aload, f_aload_n, f_istore, f_istore_n, f_lstore, f_lstore_n, f_astore, f_astore_n, f_iinc, f_icI, f_iadd, f_isub, f_imul, f_idiv, f_irem, f_iand, f_ior, f_ixor, f_ishl, f_ishr, f_iushr, f_i2l, f_i2b, f_i2s, f_ladd, f_lmul, f_lcmp, f_dupI, f_dupR, f_dup2, f_pop, f_goto, f_if, f_icmp, f_tab, f_ts0, f_ts1, f_getI, f_getZ, f_getR, f_putI, f_putR, f_gets, f_iald, f_bald, f_aald, f_iast, f_bast, f_aast, f_alen, f_new, f_newa, f_anew, f_virt, f_stat0, f_stat1, f_spec0, f_spec1, f_spec9, f_copy, f_max, f_min, f_cV1, f_cV0, f_cS1, f_cS0, f_iret, f_lret, f_vret, f_kG, pf0, cIg, inR, lget, lset, lset2, clr, entL, cnd, psh, catS, tsw, List.take_succ_cons, List.take_zero, List.drop_succ_cons, List.drop_zero, List.reverse_cons, List.reverse_nil, List.nil_append, List.cons_append, List.length_cons, List.length_nil, List.replicate_succ, List.replicate_zero, Nat.reduceAdd, Nat.reduceSub, Nat.reduceLeDiff, Nat.reduceLT, Nat.reduceEqDiff, Nat.reduceMul, Nat.zero_add, Nat.add_zero, Nat.le_refl, Nat.zero_le, Int.reduceEq, Int.reduceToNat, Int.toNat_natCast, Int.reduceNeg, Int.reduceAdd, Int.reduceSub, Int.reduceMul, Int.reduceLT, Int.reduceLE, Int.reduceDiv, Int.reduceMod, Bool.false_eq_true, ↓reduceIte, true_and, and_true, implies_true, forall_const, true_or, or_true, or_false, false_or, not_true_eq_false, not_false_eq_true, false_implies, Prod.mk.injEq, Fin.val_zero, Fin.val_one, Fin.isValue, Fin.reduceFinMk, Fin.val_two, mR_uI, mK_uI, mN_uI, mI_uR, mK_uR, mN_uR, mR_uC, mK_uC, mN_uC, Option.some.injEq, Sum.inl.injEq, Sum.inr.injEq, decide_true, decide_false, Bool.or_false, Bool.false_or, Bool.or_true, Bool.true_or, Nat.reduceBEq, beq_self_eq_true, show tb 133 = tb_133 from rfl, tb_133, tb_133_0, tb_133_1, tb_133_2, pfb, pfb_b, pfb_c, pfb_v, pfa_b, pfa_c, pfa_v]
          rw [← hce.1] at q2
          by_cases h0 : (cmS o bs pl).1 = 0
          · rw [if_pos h0]
            obtain ⟨v1, v2⟩ := hinv h0
            rw [← hce.2 h0] at q3
            obtain ⟨q4, q5⟩ := q3 h0
            exact ih (s + 1) _ _ M6 _ (by omega) v1 v2 q4 q5 (q2.trans h0) p12 hF6
          · rw [if_neg h0]
            exact w_out X M o lo _ M6 _ _ (s + 1) hs6 hF6 rfl q2 p12 h0
      · rw [if_neg h1] at hcm ⊢
        rw [hcm]
        rw [if_neg (by simp)]
        simp only [f_kG, psh, Nat.reduceAdd]
        refine G_w (pfb_ok X) LK_133 (fun i => i == 46) 30 _ _ _ _ ?_
        simp only [f_0, f_s, f_iconst, f_bipush, f_sipush, f_ldc, f_ldc_w, f_ldc2_w, f_ldI, f_ldL, f_ldA, f_iload, f_iload_n, f_lload, f_lload_n, f_aload, f_aload_n, f_istore, f_istore_n, f_lstore, f_lstore_n, f_astore, f_astore_n, f_iinc, f_icI, f_iadd, f_isub, f_imul, f_idiv, f_irem, f_iand, f_ior, f_ixor, f_ishl, f_ishr, f_iushr, f_i2l, f_i2b, f_i2s, f_ladd, f_lmul, f_lcmp, f_dupI, f_dupR, f_dup2, f_pop, f_goto, f_if, f_icmp, f_tab, f_ts0, f_ts1, f_getI, f_getZ, f_getR, f_putI, f_putR, f_gets, f_iald, f_bald, f_aald, f_iast, f_bast, f_aast, f_alen, f_new, f_newa, f_anew, f_virt, f_stat0, f_stat1, f_spec0, f_spec1, f_spec9, f_copy, f_max, f_min, f_cV1, f_cV0, f_cS1, f_cS0, f_iret, f_lret, f_vret, f_kG, pf0, cIg, inR, lget, lset, lset2, clr, entL, cnd, psh, catS, tsw, List.take_succ_cons, List.take_zero, List.drop_succ_cons, List.drop_zero, List.reverse_cons, List.reverse_nil, List.nil_append, List.cons_append, List.length_cons, List.length_nil, List.replicate_succ, List.replicate_zero, Nat.reduceAdd, Nat.reduceSub, Nat.reduceLeDiff, Nat.reduceLT, Nat.reduceEqDiff, Nat.reduceMul, Nat.zero_add, Nat.add_zero, Nat.le_refl, Nat.zero_le, Int.reduceEq, Int.reduceToNat, Int.toNat_natCast, Int.reduceNeg, Int.reduceAdd, Int.reduceSub, Int.reduceMul, Int.reduceLT, Int.reduceLE, Int.reduceDiv, Int.reduceMod, Bool.false_eq_true, ↓reduceIte, true_and, and_true, implies_true, forall_const, true_or, or_true, or_false, false_or, not_true_eq_false, not_false_eq_true, false_implies, Prod.mk.injEq, Fin.val_zero, Fin.val_one, Fin.isValue, Fin.reduceFinMk, Fin.val_two, mR_uI, mK_uI, mN_uI, mI_uR, mK_uR, mN_uR, mR_uC, mK_uC, mN_uC, Option.some.injEq, Sum.inl.injEq, Sum.inr.injEq, decide_true, decide_false, Bool.or_false, Bool.false_or, Bool.or_true, Bool.true_or, Nat.reduceBEq, beq_self_eq_true, show tb 133 = tb_133 from rfl, tb_133, tb_133_0, tb_133_1, tb_133_2, pfb, pfb_b, pfb_c, pfb_v, pfa_b, pfa_c, pfa_v, hs4.mk521]
        exact w_out X M o lo _ _ 2 _ (s + 1) hs4 (hF4.uf (by unfold CF; omega)) rfl mI_uI_eq ((mI_uI_nk (by omega)).trans i12) (by omega)
theorem filM_pv {o lo : Int} : ∀ (Ls : List Po) (g : Nat) (pl : List Po), (∀ L ∈ Ls, okP L ∧ srt o L) → PV o pl → PV o (filM lo Ls g pl)
  | [], g, pl, _, h => h
  | L :: Ls, g, pl, hL, h => by
    have hL1 := hL L List.mem_cons_self
    have hL2 : ∀ x ∈ Ls, okP x ∧ srt o x := fun x hx => hL x (List.mem_cons_of_mem _ hx)
    rw [filM]
    split
    · exact filM_pv Ls _ pl hL2 h
    · rename_i h9
      have hne : L ≠ [] := fun e => h9 (Or.inr e)
      refine filM_pv Ls _ _ hL2 (fun K hK => ?_)
      rcases List.mem_append.mp hK with hK | hK
      · exact h K hK
      · rw [List.mem_singleton.mp hK]
        exact ⟨mon_ok hL1.1, mon_ne hne, mon_srt hL1.2⟩
set_option maxRecDepth 100000 in
set_option maxHeartbeats 4000000 in
theorem e_completes (X : CX) (M : Mem) (o lo : Int) (Ls : List Po) (hs : Shp M) (ho : mI M 521 0 = o) (ho2 : 0 ≤ o ∧ o ≤ 2) (hlen : Ls.length = 6) (hLs : ∀ (j : Nat) (L : Po), Ls[j]? = some L → TP M j L) (hok : ∀ L ∈ Ls, okP L ∧ srt o L) : Ev X y_m_completes (0, 0) [aR (some 521), aI lo] M (CE M o (cmL o 120 0 [] (filM lo Ls 0 []))) := by
  have loop : ∀ (Ls2 : List Po) (g : Nat) (pl : List Po) (M1 : Mem), Ls.drop g = Ls2 → g ≤ 6 → pl.length ≤ g → RP M1 pl → PV o pl → mI M1 521 10 = 0 → mI M1 521 12 = 0 → mI M1 521 13 = 0 → Fr M M1 CP CF CC → G X y_m_completes (mZ M, mS M, 0, 0) 14 [some (aR (some 521)), some (aI lo), some (aI g)] [] M1 (CE M o (cmL o 120 0 [] (filM lo Ls2 g pl))) := by
    intro Ls2
    induction Ls2 with
    | nil =>
      intro g pl M1 hd hg hpl hR hP h10 h12 h13 hF
      have hg6 := drop_nil hd (by rw [hlen]; exact hg)
      rw [hlen] at hg6
      subst hg6
      refine G_w (pfb_ok X) LK_133 (fun i => i == 14 || i == 46) 20 _ _ _ _ ?_
      simp only [f_0, f_s, f_iconst, f_bipush, f_sipush, f_ldc, f_ldc_w, f_ldc2_w, f_ldI, f_ldL, f_ldA, f_iload, f_iload_n, f_lload, f_lload_n, f_aload, f_aload_n, f_istore, f_istore_n, f_lstore, f_lstore_n, f_astore, f_astore_n, f_iinc, f_icI, f_iadd, f_isub, f_imul, f_idiv, f_irem, f_iand, f_ior, f_ixor, f_ishl, f_ishr, f_iushr, f_i2l, f_i2b, f_i2s, f_ladd, f_lmul, f_lcmp, f_dupI, f_dupR, f_dup2, f_pop, f_goto, f_if, f_icmp, f_tab, f_ts0, f_ts1, f_getI, f_getZ, f_getR, f_putI, f_putR, f_gets, f_iald, f_bald, f_aald, f_iast, f_bast, f_aast, f_alen, f_new, f_newa, f_anew, f_virt, f_stat0, f_stat1, f_spec0, f_spec1, f_spec9, f_copy, f_max, f_min, f_cV1, f_cV0, f_cS1, f_cS0, f_iret, f_lret, f_vret, f_kG, pf0, cIg, inR, lget, lset, lset2, clr, entL, cnd, psh, catS, tsw, List.take_succ_cons, List.take_zero, List.drop_succ_cons, List.drop_zero, List.reverse_cons, List.reverse_nil, List.nil_append, List.cons_append, List.length_cons, List.length_nil, List.replicate_succ, List.replicate_zero, Nat.reduceAdd, Nat.reduceSub, Nat.reduceLeDiff, Nat.reduceLT, Nat.reduceEqDiff, Nat.reduceMul, Nat.zero_add, Nat.add_zero, Nat.le_refl, Nat.zero_le, Int.reduceEq, Int.reduceToNat, Int.toNat_natCast, Int.reduceNeg, Int.reduceAdd, Int.reduceSub, Int.reduceMul, Int.reduceLT, Int.reduceLE, Int.reduceDiv, Int.reduceMod, Bool.false_eq_true, ↓reduceIte, true_and, and_true, implies_true, forall_const, true_or, or_true, or_false, false_or, not_true_eq_false, not_false_eq_true, false_implies, Prod.mk.injEq, Fin.val_zero, Fin.val_one, Fin.isValue, Fin.reduceFinMk, Fin.val_two, mR_uI, mK_uI, mN_uI, mI_uR, mK_uR, mN_uR, mR_uC, mK_uC, mN_uC, Option.some.injEq, Sum.inl.injEq, Sum.inr.injEq, decide_true, decide_false, Bool.or_false, Bool.false_or, Bool.or_true, Bool.true_or, Nat.reduceBEq, beq_self_eq_true, show tb 133 = tb_133 from rfl, tb_133, tb_133_0, tb_133_1, tb_133_2, pfb, pfb_b, pfb_c, pfb_v, pfa_b, pfa_c, pfa_v]
      (repeat' (first | with_reducible apply And.intro | with_reducible intro _)) <;> (try omega)
      all_goals exact w_loop X M o lo hs ho ho2 120 0 [] pl M1 _ rfl (BI_nil o) hP (RBx_nil h10) hR h13 h12 hF
    | cons L Ls2 ih =>
      intro g pl M1 hd hg hpl hR hP h10 h12 h13 hF
      obtain ⟨p1, p2, p3⟩ := drop_cons hd
      rw [hlen] at p3
      have hs1 := hF.shp hs
      have hTL := (hLs g L p1).fr hF (by omega) (by unfold CP; omega)
      have okL1 := hok L (List.mem_of_getElem? p1)
      have hge : ¬ (6 : Int) ≤ (g : Int) := by omega
      have l1 := hTL.1
      rw [filM]
      by_cases hlo : (g : Int) = lo
      · rw [if_pos (Or.inl hlo)]
        have hn := ih (g + 1) pl M1 p2 (by omega) (by omega) hR hP h10 h12 h13 hF
        rw [show ((g + 1 : Nat) : Int) = lo + 1 by omega] at hn
        refine G_w (pfb_ok X) LK_133 (fun i => i == 14 || i == 46) 20 _ _ _ _ ?_
        simp only [f_0, f_s, f_iconst, f_bipush, f_sipush, f_ldc, f_ldc_w, f_ldc2_w, f_ldI, f_ldL, f_ldA, f_iload, f_iload_n, f_lload, f_lload_n, f_aload, f_aload_n, f_istore, f_istore_n, f_lstore, f_lstore_n, f_astore, f_astore_n, f_iinc, f_icI, f_iadd, f_isub, f_imul, f_idiv, f_irem, f_iand, f_ior, f_ixor, f_ishl, f_ishr, f_iushr, f_i2l, f_i2b, f_i2s, f_ladd, f_lmul, f_lcmp, f_dupI, f_dupR, f_dup2, f_pop, f_goto, f_if, f_icmp, f_tab, f_ts0, f_ts1, f_getI, f_getZ, f_getR, f_putI, f_putR, f_gets, f_iald, f_bald, f_aald, f_iast, f_bast, f_aast, f_alen, f_new, f_newa, f_anew, f_virt, f_stat0, f_stat1, f_spec0, f_spec1, f_spec9, f_copy, f_max, f_min, f_cV1, f_cV0, f_cS1, f_cS0, f_iret, f_lret, f_vret, f_kG, pf0, cIg, inR, lget, lset, lset2, clr, entL, cnd, psh, catS, tsw, List.take_succ_cons, List.take_zero, List.drop_succ_cons, List.drop_zero, List.reverse_cons, List.reverse_nil, List.nil_append, List.cons_append, List.length_cons, List.length_nil, List.replicate_succ, List.replicate_zero, Nat.reduceAdd, Nat.reduceSub, Nat.reduceLeDiff, Nat.reduceLT, Nat.reduceEqDiff, Nat.reduceMul, Nat.zero_add, Nat.add_zero, Nat.le_refl, Nat.zero_le, Int.reduceEq, Int.reduceToNat, Int.toNat_natCast, Int.reduceNeg, Int.reduceAdd, Int.reduceSub, Int.reduceMul, Int.reduceLT, Int.reduceLE, Int.reduceDiv, Int.reduceMod, Bool.false_eq_true, ↓reduceIte, true_and, and_true, implies_true, forall_const, true_or, or_true, or_false, false_or, not_true_eq_false, not_false_eq_true, false_implies, Prod.mk.injEq, Fin.val_zero, Fin.val_one, Fin.isValue, Fin.reduceFinMk, Fin.val_two, mR_uI, mK_uI, mN_uI, mI_uR, mK_uR, mN_uR, mR_uC, mK_uC, mN_uC, Option.some.injEq, Sum.inl.injEq, Sum.inr.injEq, decide_true, decide_false, Bool.or_false, Bool.false_or, Bool.or_true, Bool.true_or, Nat.reduceBEq, beq_self_eq_true, show tb 133 = tb_133 from rfl, tb_133, tb_133_0, tb_133_1, tb_133_2, pfb, pfb_b, pfb_c, pfb_v, pfa_b, pfa_c, pfa_v, hge, hlo]
        (repeat' (first | with_reducible apply And.intro | with_reducible intro _)) <;> (try omega)
        all_goals exact hn
      · by_cases hL0 : L = []
        · rw [if_pos (Or.inr hL0)]
          have hn := ih (g + 1) pl M1 p2 (by omega) (by omega) hR hP h10 h12 h13 hF
          have hle : ((L.length : Nat) : Int) ≤ 0 := by rw [hL0]; exact Int.le_refl 0
          refine G_w (pfb_ok X) LK_133 (fun i => i == 14 || i == 46) 20 _ _ _ _ ?_
          simp only [f_0, f_s, f_iconst, f_bipush, f_sipush, f_ldc, f_ldc_w, f_ldc2_w, f_ldI, f_ldL, f_ldA, f_iload, f_iload_n, f_lload, f_lload_n, f_aload, f_aload_n, f_istore, f_istore_n, f_lstore, f_lstore_n, f_astore, f_astore_n, f_iinc, f_icI, f_iadd, f_isub, f_imul, f_idiv, f_irem, f_iand, f_ior, f_ixor, f_ishl, f_ishr, f_iushr, f_i2l, f_i2b, f_i2s, f_ladd, f_lmul, f_lcmp, f_dupI, f_dupR, f_dup2, f_pop, f_goto, f_if, f_icmp, f_tab, f_ts0, f_ts1, f_getI, f_getZ, f_getR, f_putI, f_putR, f_gets, f_iald, f_bald, f_aald, f_iast, f_bast, f_aast, f_alen, f_new, f_newa, f_anew, f_virt, f_stat0, f_stat1, f_spec0, f_spec1, f_spec9, f_copy, f_max, f_min, f_cV1, f_cV0, f_cS1, f_cS0, f_iret, f_lret, f_vret, f_kG, pf0, cIg, inR, lget, lset, lset2, clr, entL, cnd, psh, catS, tsw, List.take_succ_cons, List.take_zero, List.drop_succ_cons, List.drop_zero, List.reverse_cons, List.reverse_nil, List.nil_append, List.cons_append, List.length_cons, List.length_nil, List.replicate_succ, List.replicate_zero, Nat.reduceAdd, Nat.reduceSub, Nat.reduceLeDiff, Nat.reduceLT, Nat.reduceEqDiff, Nat.reduceMul, Nat.zero_add, Nat.add_zero, Nat.le_refl, Nat.zero_le, Int.reduceEq, Int.reduceToNat, Int.toNat_natCast, Int.reduceNeg, Int.reduceAdd, Int.reduceSub, Int.reduceMul, Int.reduceLT, Int.reduceLE, Int.reduceDiv, Int.reduceMod, Bool.false_eq_true, ↓reduceIte, true_and, and_true, implies_true, forall_const, true_or, or_true, or_false, false_or, not_true_eq_false, not_false_eq_true, false_implies, Prod.mk.injEq, Fin.val_zero, Fin.val_one, Fin.isValue, Fin.reduceFinMk, Fin.val_two, mR_uI, mK_uI, mN_uI, mI_uR, mK_uR, mN_uR, mR_uC, mK_uC, mN_uC, Option.some.injEq, Sum.inl.injEq, Sum.inr.injEq, decide_true, decide_false, Bool.or_false, Bool.false_or, Bool.or_true, Bool.true_or, Nat.reduceBEq, beq_self_eq_true, show tb 133 = tb_133 from rfl, tb_133, tb_133_0, tb_133_1, tb_133_2, pfb, pfb_b, pfb_c, pfb_v, pfa_b, pfa_c, pfa_v, hs1.mr1, hs1.mr2, hs1.mr3, hs1.mr4, hs1.mr5, hs1.mr14, hs1.mr15, hs1.mr16, hs1.mr18, hs1.mr19, hs1.mr20, hs1.mr21, hs1.mr22, hs1.mr23, hs1.mk521, hs1.mk522, hs1.mn522, hs1.mk523, hs1.mn523, hs1.mk524, hs1.mn524, hs1.mk525, hs1.mn525, hs1.mk526, hs1.mn526, hs1.mk527, hs1.mn527, hs1.mk528, hs1.mn528, hs1.mk529, hs1.mn529, hs1.mk530, hs1.mn530, hs1.mk531, hs1.mn531, hs1.mk532, hs1.mn532, hs1.mk533, hs1.mn533, hs1.mk534, hs1.mn534, hs1.mk535, hs1.mn535, hge, hlo, l1, hle]
          (repeat' (first | with_reducible apply And.intro | with_reducible intro _)) <;> (try omega)
          all_goals exact hn
        · rw [if_neg (fun h => by rcases h with h | h; exact hlo h; exact hL0 h)]
          have hle : ¬ ((L.length : Nat) : Int) ≤ 0 := by have := List.length_pos_iff.mpr hL0; omega
          have c11 := hR.1
          refine G_w (pfb_ok X) LK_133 (fun i => i == 14 || i == 46) 20 _ _ _ _ ?_
          simp only [f_0, f_s, f_iconst, f_bipush, f_sipush, f_ldc, f_ldc_w, f_ldc2_w, f_ldI, f_ldL, f_ldA, f_iload, f_iload_n, f_lload, f_lload_n, f_aload, f_aload_n, f_istore, f_istore_n, f_lstore, f_lstore_n, f_astore, f_astore_n, f_iinc, f_icI, f_iadd, f_isub, f_imul, f_idiv, f_irem, f_iand, f_ior, f_ixor, f_ishl, f_ishr, f_iushr, f_i2l, f_i2b, f_i2s, f_ladd, f_lmul, f_lcmp, f_dupI, f_dupR, f_dup2, f_pop, f_goto, f_if, f_icmp, f_tab, f_ts0, f_ts1, f_getI, f_getZ, f_getR, f_putI, f_putR, f_gets, f_iald, f_bald, f_aald, f_iast, f_bast, f_aast, f_alen, f_new, f_newa, f_anew, f_virt, f_stat0, f_stat1, f_spec0, f_spec1, f_spec9, f_copy, f_max, f_min, f_cV1, f_cV0, f_cS1, f_cS0, f_iret, f_lret, f_vret, f_kG, pf0, cIg, inR, lget, lset, lset2, clr, entL, cnd, psh, catS, tsw, List.take_succ_cons, List.take_zero, List.drop_succ_cons, List.drop_zero, List.reverse_cons, List.reverse_nil, List.nil_append, List.cons_append, List.length_cons, List.length_nil, List.replicate_succ, List.replicate_zero, Nat.reduceAdd, Nat.reduceSub, Nat.reduceLeDiff, Nat.reduceLT, Nat.reduceEqDiff, Nat.reduceMul, Nat.zero_add, Nat.add_zero, Nat.le_refl, Nat.zero_le, Int.reduceEq, Int.reduceToNat, Int.toNat_natCast, Int.reduceNeg, Int.reduceAdd, Int.reduceSub, Int.reduceMul, Int.reduceLT, Int.reduceLE, Int.reduceDiv, Int.reduceMod, Bool.false_eq_true, ↓reduceIte, true_and, and_true, implies_true, forall_const, true_or, or_true, or_false, false_or, not_true_eq_false, not_false_eq_true, false_implies, Prod.mk.injEq, Fin.val_zero, Fin.val_one, Fin.isValue, Fin.reduceFinMk, Fin.val_two, mR_uI, mK_uI, mN_uI, mI_uR, mK_uR, mN_uR, mR_uC, mK_uC, mN_uC, Option.some.injEq, Sum.inl.injEq, Sum.inr.injEq, decide_true, decide_false, Bool.or_false, Bool.false_or, Bool.or_true, Bool.true_or, Nat.reduceBEq, beq_self_eq_true, show tb 133 = tb_133 from rfl, tb_133, tb_133_0, tb_133_1, tb_133_2, pfb, pfb_b, pfb_c, pfb_v, pfa_b, pfa_c, pfa_v, hs1.mr1, hs1.mr2, hs1.mr3, hs1.mr4, hs1.mr5, hs1.mr14, hs1.mr15, hs1.mr16, hs1.mr18, hs1.mr19, hs1.mr20, hs1.mr21, hs1.mr22, hs1.mr23, hs1.mk521, hs1.mk522, hs1.mn522, hs1.mk523, hs1.mn523, hs1.mk524, hs1.mn524, hs1.mk525, hs1.mn525, hs1.mk526, hs1.mn526, hs1.mk527, hs1.mn527, hs1.mk528, hs1.mn528, hs1.mk529, hs1.mn529, hs1.mk530, hs1.mn530, hs1.mk531, hs1.mn531, hs1.mk532, hs1.mn532, hs1.mk533, hs1.mn533, hs1.mk534, hs1.mn534, hs1.mk535, hs1.mn535, hge, hlo, l1, hle, c11]
          refine ⟨by omega, by omega, ?_⟩
          have e : (32 : Int) + (pl.length : Int) = ((32 + pl.length : Nat) : Int) := by omega
          rw [e]
          refine Ev_mono (e_copies X M1 g (32 + pl.length) L hs1 hTL (by omega) (by omega)) (fun r M2 hr _ _ => ?_)
          obtain ⟨rfl, w1, w2⟩ := hr
          have hs2 := w2.shp hs1
          have d11 := (w2.2.1 11 (fun h => h)).trans c11
          simp only [f_kG, psh, Nat.reduceAdd]
          refine G_w (pfb_ok X) LK_133 (fun i => i == 14 || i == 46) 20 _ _ _ _ ?_
          simp only [f_0, f_s, f_iconst, f_bipush, f_sipush, f_ldc, f_ldc_w, f_ldc2_w, f_ldI, f_ldL, f_ldA, f_iload, f_iload_n, f_lload, f_lload_n, f_aload, f_aload_n, f_istore, f_istore_n, f_lstore, f_lstore_n, f_astore, f_astore_n, f_iinc, f_icI, f_iadd, f_isub, f_imul, f_idiv, f_irem, f_iand, f_ior, f_ixor, f_ishl, f_ishr, f_iushr, f_i2l, f_i2b, f_i2s, f_ladd, f_lmul, f_lcmp, f_dupI, f_dupR, f_dup2, f_pop, f_goto, f_if, f_icmp, f_tab, f_ts0, f_ts1, f_getI, f_getZ, f_getR, f_putI, f_putR, f_gets, f_iald, f_bald, f_aald, f_iast, f_bast, f_aast, f_alen, f_new, f_newa, f_anew, f_virt, f_stat0, f_stat1, f_spec0, f_spec1, f_spec9, f_copy, f_max, f_min, f_cV1, f_cV0, f_cS1, f_cS0, f_iret, f_lret, f_vret, f_kG, pf0, cIg, inR, lget, lset, lset2, clr, entL, cnd, psh, catS, tsw, List.take_succ_cons, List.take_zero, List.drop_succ_cons, List.drop_zero, List.reverse_cons, List.reverse_nil, List.nil_append, List.cons_append, List.length_cons, List.length_nil, List.replicate_succ, List.replicate_zero, Nat.reduceAdd, Nat.reduceSub, Nat.reduceLeDiff, Nat.reduceLT, Nat.reduceEqDiff, Nat.reduceMul, Nat.zero_add, Nat.add_zero, Nat.le_refl, Nat.zero_le, Int.reduceEq, Int.reduceToNat, Int.toNat_natCast, Int.reduceNeg, Int.reduceAdd, Int.reduceSub, Int.reduceMul, Int.reduceLT, Int.reduceLE, Int.reduceDiv, Int.reduceMod, Bool.false_eq_true, ↓reduceIte, true_and, and_true, implies_true, forall_const, true_or, or_true, or_false, false_or, not_true_eq_false, not_false_eq_true, false_implies, Prod.mk.injEq, Fin.val_zero, Fin.val_one, Fin.isValue, Fin.reduceFinMk, Fin.val_two, mR_uI, mK_uI, mN_uI, mI_uR, mK_uR, mN_uR, mR_uC, mK_uC, mN_uC, Option.some.injEq, Sum.inl.injEq, Sum.inr.injEq, decide_true, decide_false, Bool.or_false, Bool.false_or, Bool.or_true, Bool.true_or, Nat.reduceBEq, beq_self_eq_true, show tb 133 = tb_133 from rfl, tb_133, tb_133_0, tb_133_1, tb_133_2, pfb, pfb_b, pfb_c, pfb_v, pfa_b, pfa_c, pfa_v, hs2.mk521, d11]
          refine ⟨by omega, ?_⟩
          rw [e]
          refine Ev_mono (e_makesMonic X M2 (32 + pl.length) L hs2 w1 okL1.1 hL0 (by omega)) (fun r M3 hr _ _ => ?_)
          obtain ⟨rfl, x1, x2⟩ := hr
          have hs3 := x2.shp hs2
          have e11 := (x2.2.1 11 (fun h => h)).trans d11
          have hF3 : Fr M1 (uI M3 521 11 (pl.length + 1)) (fun a => a = 32 + pl.length) (fun k => k = 11) NN := Fr.uf (F := fun k => k = 11) ((w2.tr x2).w (fun _ h => h) (fun _ h => h.elim) (fun _ h => h)) rfl
          have hFx : Fr M3 (uI M3 521 11 (pl.length + 1)) NN (fun k => k = 11) NN := (Fr.rf M3 NN (fun k => k = 11) NN).uf rfl
          have hRn : RP (uI M3 521 11 (pl.length + 1)) (pl ++ [mon L]) := by
            refine ⟨by rw [mI_uI_eq, List.length_append]; rfl, by rw [List.length_append, List.length_singleton]; omega, fun j K hj => ?_⟩
            by_cases hjl : j < pl.length
            · rw [List.getElem?_append_left hjl] at hj
              exact (hR.2.2 j K hj).fr hF3 (by omega) (by omega)
            · have hj2 := (List.getElem?_eq_some_iff.mp hj).1
              rw [List.length_append, List.length_singleton] at hj2
              have hj3 : j = pl.length := by omega
              subst hj3
              rw [List.getElem?_append_right (Nat.le_refl _), Nat.sub_self, List.getElem?_cons_zero, Option.some.injEq] at hj
              subst hj
              exact x1.fr hFx (by omega) (fun h => h)
          have hPn : PV o (pl ++ [mon L]) := fun K hK => by
            rcases List.mem_append.mp hK with hK | hK
            · exact hP K hK
            · rw [List.mem_singleton.mp hK]
              exact ⟨mon_ok okL1.1, mon_ne hL0, mon_srt okL1.2⟩
          have hn := ih (g + 1) (pl ++ [mon L]) _ p2 (by omega) (by rw [List.length_append, List.length_singleton]; omega) hRn hPn ((hF3.2.1 10 (by omega)).trans h10) ((hF3.2.1 12 (by omega)).trans h12) ((hF3.2.1 13 (by omega)).trans h13) (hF.tr (hF3.w (fun a h => by unfold CP; omega) (fun a h => by unfold CF; omega) (fun _ h => h.elim)))
          simp only [f_kG, psh, Nat.reduceAdd]
          refine G_w (pfb_ok X) LK_133 (fun i => i == 14 || i == 46) 20 _ _ _ _ ?_
          simp only [f_0, f_s, f_iconst, f_bipush, f_sipush, f_ldc, f_ldc_w, f_ldc2_w, f_ldI, f_ldL, f_ldA, f_iload, f_iload_n, f_lload, f_lload_n, f_aload, f_aload_n, f_istore, f_istore_n, f_lstore, f_lstore_n, f_astore, f_astore_n, f_iinc, f_icI, f_iadd, f_isub, f_imul, f_idiv, f_irem, f_iand, f_ior, f_ixor, f_ishl, f_ishr, f_iushr, f_i2l, f_i2b, f_i2s, f_ladd, f_lmul, f_lcmp, f_dupI, f_dupR, f_dup2, f_pop, f_goto, f_if, f_icmp, f_tab, f_ts0, f_ts1, f_getI, f_getZ, f_getR, f_putI, f_putR, f_gets, f_iald, f_bald, f_aald, f_iast, f_bast, f_aast, f_alen, f_new, f_newa, f_anew, f_virt, f_stat0, f_stat1, f_spec0, f_spec1, f_spec9, f_copy, f_max, f_min, f_cV1, f_cV0, f_cS1, f_cS0, f_iret, f_lret, f_vret, f_kG, pf0, cIg, inR, lget, lset, lset2, clr, entL, cnd, psh, catS, tsw, List.take_succ_cons, List.take_zero, List.drop_succ_cons, List.drop_zero, List.reverse_cons, List.reverse_nil, List.nil_append, List.cons_append, List.length_cons, List.length_nil, List.replicate_succ, List.replicate_zero, Nat.reduceAdd, Nat.reduceSub, Nat.reduceLeDiff, Nat.reduceLT, Nat.reduceEqDiff, Nat.reduceMul, Nat.zero_add, Nat.add_zero, Nat.le_refl, Nat.zero_le, Int.reduceEq, Int.reduceToNat, Int.toNat_natCast, Int.reduceNeg, Int.reduceAdd, Int.reduceSub, Int.reduceMul, Int.reduceLT, Int.reduceLE, Int.reduceDiv, Int.reduceMod, Bool.false_eq_true, ↓reduceIte, true_and, and_true, implies_true, forall_const, true_or, or_true, or_false, false_or, not_true_eq_false, not_false_eq_true, false_implies, Prod.mk.injEq, Fin.val_zero, Fin.val_one, Fin.isValue, Fin.reduceFinMk, Fin.val_two, mR_uI, mK_uI, mN_uI, mI_uR, mK_uR, mN_uR, mR_uC, mK_uC, mN_uC, Option.some.injEq, Sum.inl.injEq, Sum.inr.injEq, decide_true, decide_false, Bool.or_false, Bool.false_or, Bool.or_true, Bool.true_or, Nat.reduceBEq, beq_self_eq_true, show tb 133 = tb_133 from rfl, tb_133, tb_133_0, tb_133_1, tb_133_2, pfb, pfb_b, pfb_c, pfb_v, pfa_b, pfa_c, pfa_v, hs3.mk521, e11]
          (repeat' (first | with_reducible apply And.intro | with_reducible intro _)) <;> (try omega)
          all_goals exact hn
  refine Ev_of mcd_133 mok_133 (by decide) rfl (Nat.le_of_ble_eq_true rfl) ?_
  rw [show yl 133 = 3 from rfl]
  refine G_w (pfb_ok X) LK_133 (fun i => i == 14) 20 _ _ _ _ ?_
  simp only [f_0, f_s, f_iconst, f_bipush, f_sipush, f_ldc, f_ldc_w, f_ldc2_w, f_ldI, f_ldL, f_ldA, f_iload, f_iload_n, f_lload, f_lload_n, f_aload, f_aload_n, f_istore, f_istore_n, f_lstore, f_lstore_n, f_astore, f_astore_n, f_iinc, f_icI, f_iadd, f_isub, f_imul, f_idiv, f_irem, f_iand, f_ior, f_ixor, f_ishl, f_ishr, f_iushr, f_i2l, f_i2b, f_i2s, f_ladd, f_lmul, f_lcmp, f_dupI, f_dupR, f_dup2, f_pop, f_goto, f_if, f_icmp, f_tab, f_ts0, f_ts1, f_getI, f_getZ, f_getR, f_putI, f_putR, f_gets, f_iald, f_bald, f_aald, f_iast, f_bast, f_aast, f_alen, f_new, f_newa, f_anew, f_virt, f_stat0, f_stat1, f_spec0, f_spec1, f_spec9, f_copy, f_max, f_min, f_cV1, f_cV0, f_cS1, f_cS0, f_iret, f_lret, f_vret, f_kG, pf0, cIg, inR, lget, lset, lset2, clr, entL, cnd, psh, catS, tsw, List.take_succ_cons, List.take_zero, List.drop_succ_cons, List.drop_zero, List.reverse_cons, List.reverse_nil, List.nil_append, List.cons_append, List.length_cons, List.length_nil, List.replicate_succ, List.replicate_zero, Nat.reduceAdd, Nat.reduceSub, Nat.reduceLeDiff, Nat.reduceLT, Nat.reduceEqDiff, Nat.reduceMul, Nat.zero_add, Nat.add_zero, Nat.le_refl, Nat.zero_le, Int.reduceEq, Int.reduceToNat, Int.toNat_natCast, Int.reduceNeg, Int.reduceAdd, Int.reduceSub, Int.reduceMul, Int.reduceLT, Int.reduceLE, Int.reduceDiv, Int.reduceMod, Bool.false_eq_true, ↓reduceIte, true_and, and_true, implies_true, forall_const, true_or, or_true, or_false, false_or, not_true_eq_false, not_false_eq_true, false_implies, Prod.mk.injEq, Fin.val_zero, Fin.val_one, Fin.isValue, Fin.reduceFinMk, Fin.val_two, mR_uI, mK_uI, mN_uI, mI_uR, mK_uR, mN_uR, mR_uC, mK_uC, mN_uC, Option.some.injEq, Sum.inl.injEq, Sum.inr.injEq, decide_true, decide_false, Bool.or_false, Bool.false_or, Bool.or_true, Bool.true_or, Nat.reduceBEq, beq_self_eq_true, show tb 133 = tb_133 from rfl, tb_133, tb_133_0, tb_133_1, tb_133_2, pfb, pfb_b, pfb_c, pfb_v, pfa_b, pfa_c, pfa_v, hs.mk521]
  have hF0 : Fr M (uI (uI (uI (uI M 521 10 0) 521 11 0) 521 12 0) 521 13 0) CP CF CC := ((((Fr.rf M CP CF CC).uf (by unfold CF; omega)).uf (by unfold CF; omega)).uf (by unfold CF; omega)).uf (by unfold CF; omega)
  refine loop Ls 0 [] _ rfl (by omega) (by simp) ⟨?_, by simp, fun j L hj => by simp at hj⟩ (fun L hL => by cases hL) ?_ ?_ mI_uI_eq hF0
  · exact (mI_uI_nk (by omega)).trans ((mI_uI_nk (by omega)).trans mI_uI_eq)
  · exact (mI_uI_nk (by omega)).trans ((mI_uI_nk (by omega)).trans ((mI_uI_nk (by omega)).trans mI_uI_eq))
  · exact (mI_uI_nk (by omega)).trans mI_uI_eq
