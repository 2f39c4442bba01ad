/-! the reference's pile -/
def RP (M : Mem) (pl : List Po) : Prop := mI M 521 11 = pl.length ∧ pl.length ≤ 100 ∧ ∀ (j : Nat) (L : Po), pl[j]? = some L → TP M (32 + j) L
theorem RP.fr {M M' : Mem} {pl : List Po} {P F C : Nat → Prop} (h : RP M pl) (hF : Fr M M' P F C) (h1 : ¬ F 11) (h2 : ∀ a, 32 ≤ a → ¬ P a) : RP M' pl := ⟨(hF.2.1 11 h1).trans h.1, h.2.1, fun j L hj => (h.2.2 j L hj).fr hF (by have := (List.getElem?_eq_some_iff.mp hj).1; have := h.2.1; omega) (h2 _ (by omega))⟩
theorem RBt.fr {M M' : Mem} {bs : List Mb} {P F C : Nat → Prop} (h : RBt M bs) (hF : Fr M M' P F C) (h1 : ¬ F 10) (h2 : ∀ a, 8 ≤ a → a < 32 → ¬ P a) : RBt M' bs := ⟨(hF.2.1 10 h1).trans h.1, h.2.1, fun j b hj => (h.2.2 j b hj).fr hF (by have := (List.getElem?_eq_some_iff.mp hj).1; have := h.2.1; omega) (h2 _ (by omega) (by have := (List.getElem?_eq_some_iff.mp hj).1; have := h.2.1; omega))⟩
theorem RBg.fr {M M' : Mem} {bs : List Mb} {P F C : Nat → Prop} (h : RBg M bs) (hF : Fr M M' P F C) (h1 : ¬ C 529) : RBg M' bs := fun j b hj => (hF.ne (by omega) h1 j).trans (h j b hj)
theorem RBm.fr {M M' : Mem} {bs : List Mb} {P F C : Nat → Prop} (h : RBm M bs) (hF : Fr M M' P F C) (h1 : ¬ C 527) : RBm M' bs := fun j b hj => (hF.ne (by omega) h1 j).trans (h j b hj)
/-- how isPiled ends -/
def PI (M : Mem) (pl : List Po) (L : Po) (r : Option AV) (M' : Mem) : Prop := (pl.length = 100 ∧ r = some (aI 0) ∧ M' = uI M 521 13 3) ∨ (pl.length < 100 ∧ r = some (aI 1) ∧ RP M' (pl ++ [L]) ∧ Fr M M' (fun a => 32 ≤ a) (fun k => k = 11) NN)
set_option maxRecDepth 100000 in
set_option maxHeartbeats 4000000 in
theorem e_isPiled (X : CX) (M : Mem) (p : Nat) (L : Po) (pl : List Po) (hs : Shp M) (hL : TP M p L) (hp : p < 32) (hR : RP M pl) : Ev X y_m_isPiled (0, 0) [aR (some 521), aI p] M (PI M pl L) := by
  obtain ⟨r1, r2, r3⟩ := hR
  by_cases h : (pl.length : Int) = 100
  · refine Ev_of mcd_148 mok_148 (by decide) rfl (Nat.le_of_ble_eq_true rfl) ?_
    rw [show yl 148 = 2 from rfl]
    refine G_w (pfb_ok X) LK_148 (fun i => false) 20 _ _ _ _ ?_
    simp only [f_0, f_s, f_iconst, f_bipush, f_sipush, f_ldc, f_ldc_w, f_ldc2_w, f_ldI, f_ldL, f_ldA, f_iload, f_iload_n, f_lload, f_lload_n, f_aload, f_aload_n, f_istore, f_istore_n, f_lstore, f_lstore_n, f_astore, f_astore_n, f_iinc, f_icI, f_iadd, f_isub, f_imul, f_idiv, f_irem, f_iand, f_ior, f_ixor, f_ishl, f_ishr, f_iushr, f_i2l, f_i2b, f_i2s, f_ladd, f_lmul, f_lcmp, f_dupI, f_dupR, f_dup2, f_pop, f_goto, f_if, f_icmp, f_tab, f_ts0, f_ts1, f_getI, f_getZ, f_getR, f_putI, f_putR, f_gets, f_iald, f_bald, f_aald, f_iast, f_bast, f_aast, f_alen, f_new, f_newa, f_anew, f_virt, f_stat0, f_stat1, f_spec0, f_spec1, f_spec9, f_copy, f_max, f_min, f_cV1, f_cV0, f_cS1, f_cS0, f_iret, f_lret, f_vret, f_kG, pf0, cIg, inR, lget, lset, lset2, clr, entL, cnd, psh, catS, tsw, List.take_succ_cons, List.take_zero, List.drop_succ_cons, List.drop_zero, List.reverse_cons, List.reverse_nil, List.nil_append, List.cons_append, List.length_cons, List.length_nil, List.replicate_succ, List.replicate_zero, Nat.reduceAdd, Nat.reduceSub, Nat.reduceLeDiff, Nat.reduceLT, Nat.reduceEqDiff, Nat.reduceMul, Nat.zero_add, Nat.add_zero, Nat.le_refl, Nat.zero_le, Int.reduceEq, Int.reduceToNat, Int.toNat_natCast, Int.reduceNeg, Int.reduceAdd, Int.reduceSub, Int.reduceMul, Int.reduceLT, Int.reduceLE, Int.reduceDiv, Int.reduceMod, Bool.false_eq_true, ↓reduceIte, true_and, and_true, implies_true, forall_const, true_or, or_true, or_false, false_or, not_true_eq_false, not_false_eq_true, false_implies, Prod.mk.injEq, Fin.val_zero, Fin.val_one, Fin.isValue, Fin.reduceFinMk, Fin.val_two, mR_uI, mK_uI, mN_uI, mI_uR, mK_uR, mN_uR, mR_uC, mK_uC, mN_uC, Option.some.injEq, Sum.inl.injEq, Sum.inr.injEq, decide_true, decide_false, Bool.or_false, Bool.false_or, Bool.or_true, Bool.true_or, Nat.reduceBEq, beq_self_eq_true, show tb 148 = tb_148 from rfl, tb_148, tb_148_0, pfb, pfb_b, pfb_c, pfb_v, pfa_b, pfa_c, pfa_v, hs.mk521, r1, h]
    exact Or.inl ⟨by omega, rfl, rfl⟩
  · refine Ev_of mcd_148 mok_148 (by decide) rfl (Nat.le_of_ble_eq_true rfl) ?_
    rw [show yl 148 = 2 from rfl]
    refine G_w (pfb_ok X) LK_148 (fun i => false) 20 _ _ _ _ ?_
    simp only [f_0, f_s, f_iconst, f_bipush, f_sipush, f_ldc, f_ldc_w, f_ldc2_w, f_ldI, f_ldL, f_ldA, f_iload, f_iload_n, f_lload, f_lload_n, f_aload, f_aload_n, f_istore, f_istore_n, f_lstore, f_lstore_n, f_astore, f_astore_n, f_iinc, f_icI, f_iadd, f_isub, f_imul, f_idiv, f_irem, f_iand, f_ior, f_ixor, f_ishl, f_ishr, f_iushr, f_i2l, f_i2b, f_i2s, f_ladd, f_lmul, f_lcmp, f_dupI, f_dupR, f_dup2, f_pop, f_goto, f_if, f_icmp, f_tab, f_ts0, f_ts1, f_getI, f_getZ, f_getR, f_putI, f_putR, f_gets, f_iald, f_bald, f_aald, f_iast, f_bast, f_aast, f_alen, f_new, f_newa, f_anew, f_virt, f_stat0, f_stat1, f_spec0, f_spec1, f_spec9, f_copy, f_max, f_min, f_cV1, f_cV0, f_cS1, f_cS0, f_iret, f_lret, f_vret, f_kG, pf0, cIg, inR, lget, lset, lset2, clr, entL, cnd, psh, catS, tsw, List.take_succ_cons, List.take_zero, List.drop_succ_cons, List.drop_zero, List.reverse_cons, List.reverse_nil, List.nil_append, List.cons_append, List.length_cons, List.length_nil, List.replicate_succ, List.replicate_zero, Nat.reduceAdd, Nat.reduceSub, Nat.reduceLeDiff, Nat.reduceLT, Nat.reduceEqDiff, Nat.reduceMul, Nat.zero_add, Nat.add_zero, Nat.le_refl, Nat.zero_le, Int.reduceEq, Int.reduceToNat, Int.toNat_natCast, Int.reduceNeg, Int.reduceAdd, Int.reduceSub, Int.reduceMul, Int.reduceLT, Int.reduceLE, Int.reduceDiv, Int.reduceMod, Bool.false_eq_true, ↓reduceIte, true_and, and_true, implies_true, forall_const, true_or, or_true, or_false, false_or, not_true_eq_false, not_false_eq_true, false_implies, Prod.mk.injEq, Fin.val_zero, Fin.val_one, Fin.isValue, Fin.reduceFinMk, Fin.val_two, mR_uI, mK_uI, mN_uI, mI_uR, mK_uR, mN_uR, mR_uC, mK_uC, mN_uC, Option.some.injEq, Sum.inl.injEq, Sum.inr.injEq, decide_true, decide_false, Bool.or_false, Bool.false_or, Bool.or_true, Bool.true_or, Nat.reduceBEq, beq_self_eq_true, show tb 148 = tb_148 from rfl, tb_148, tb_148_0, pfb, pfb_b, pfb_c, pfb_v, pfa_b, pfa_c, pfa_v, hs.mk521, r1, h]
    refine ⟨by omega, ?_⟩
    have e : (32 : Int) + (pl.length : Int) = ((32 + pl.length : Nat) : Int) := by omega
    rw [e]
    refine Ev_mono (e_copies X M p (32 + pl.length) L hs hL (by omega) (by omega)) (fun r M1 hr _ _ => ?_)
    obtain ⟨rfl, w1, w2⟩ := hr
    have hs1 := w2.shp hs
    have c1 := (w2.2.1 11 (fun h => h)).trans r1
    simp only [f_kG, psh, Nat.reduceAdd]
    refine G_w (pfb_ok X) LK_148 (fun i => false) 20 _ _ _ _ ?_
    simp only [f_0, f_s, f_iconst, f_bipush, f_sipush, f_ldc, f_ldc_w, f_ldc2_w, f_ldI, f_ldL, f_ldA, f_iload, f_iload_n, f_lload, f_lload_n, f_aload, f_aload_n, f_istore, f_istore_n, f_lstore, f_lstore_n, f_astore, f_astore_n, f_iinc, f_icI, f_iadd, f_isub, f_imul, f_idiv, f_irem, f_iand, f_ior, f_ixor, f_ishl, f_ishr, f_iushr, f_i2l, f_i2b, f_i2s, f_ladd, f_lmul, f_lcmp, f_dupI, f_dupR, f_dup2, f_pop, f_goto, f_if, f_icmp, f_tab, f_ts0, f_ts1, f_getI, f_getZ, f_getR, f_putI, f_putR, f_gets, f_iald, f_bald, f_aald, f_iast, f_bast, f_aast, f_alen, f_new, f_newa, f_anew, f_virt, f_stat0, f_stat1, f_spec0, f_spec1, f_spec9, f_copy, f_max, f_min, f_cV1, f_cV0, f_cS1, f_cS0, f_iret, f_lret, f_vret, f_kG, pf0, cIg, inR, lget, lset, lset2, clr, entL, cnd, psh, catS, tsw, List.take_succ_cons, List.take_zero, List.drop_succ_cons, List.drop_zero, List.reverse_cons, List.reverse_nil, List.nil_append, List.cons_append, List.length_cons, List.length_nil, List.replicate_succ, List.replicate_zero, Nat.reduceAdd, Nat.reduceSub, Nat.reduceLeDiff, Nat.reduceLT, Nat.reduceEqDiff, Nat.reduceMul, Nat.zero_add, Nat.add_zero, Nat.le_refl, Nat.zero_le, Int.reduceEq, Int.reduceToNat, Int.toNat_natCast, Int.reduceNeg, Int.reduceAdd, Int.reduceSub, Int.reduceMul, Int.reduceLT, Int.reduceLE, Int.reduceDiv, Int.reduceMod, Bool.false_eq_true, ↓reduceIte, true_and, and_true, implies_true, forall_const, true_or, or_true, or_false, false_or, not_true_eq_false, not_false_eq_true, false_implies, Prod.mk.injEq, Fin.val_zero, Fin.val_one, Fin.isValue, Fin.reduceFinMk, Fin.val_two, mR_uI, mK_uI, mN_uI, mI_uR, mK_uR, mN_uR, mR_uC, mK_uC, mN_uC, Option.some.injEq, Sum.inl.injEq, Sum.inr.injEq, decide_true, decide_false, Bool.or_false, Bool.false_or, Bool.or_true, Bool.true_or, Nat.reduceBEq, beq_self_eq_true, show tb 148 = tb_148 from rfl, tb_148, tb_148_0, pfb, pfb_b, pfb_c, pfb_v, pfa_b, pfa_c, pfa_v, hs1.mk521, c1]
    have hF2 : Fr M1 (uI M1 521 11 (pl.length + 1)) NN (fun k => k = 11) NN := (Fr.rf M1 NN (fun k => k = 11) NN).uf rfl
    refine ⟨by omega, Or.inr ⟨by omega, rfl, ⟨by rw [mI_uI_eq, List.length_append]; rfl, by rw [List.length_append, List.length_singleton]; omega, fun j K hj => ?_⟩, ?_⟩⟩
    · by_cases hjl : j < pl.length
      · rw [List.getElem?_append_left hjl] at hj
        exact ((r3 j K hj).fr w2 (by omega) (by omega)).fr hF2 (by omega) (fun h => h)
      · have hj2 := (List.getElem?_eq_some_iff.mp hj).1
        rw [List.length_append, List.length_singleton] at hj2
        have hj3 : j = pl.length := by omega
        subst hj3
        rw [List.getElem?_append_right (Nat.le_refl _), Nat.sub_self, List.getElem?_cons_zero, Option.some.injEq] at hj
        subst hj
        exact w1.fr hF2 (by omega) (fun h => h)
    · exact (w2.w (fun a h => by omega) (fun _ h => h.elim) (fun _ h => h)).tr (hF2.w (fun _ h => h.elim) (fun _ h => h) (fun _ h => h))
def TO (M : Mem) (o : Int) (pl : List Po) (r : Option AV) (M' : Mem) : Prop := r = none ∧ TP M' 7 (pl.getD (lowI o pl) []) ∧ RP M' (pl.eraseIdx (lowI o pl)) ∧ Fr M M' (fun a => a = 7 ∨ 32 ≤ a) (fun k => k = 11) NN
theorem hd_at2 {M : Mem} {p : Nat} {L : Po} (hL : TP M p L) (ok : okP L) (hne : L ≠ []) : (0 ≤ tmI M (p : Int) 0 ∧ tmI M (p : Int) 0 ≤ 2147483647) ∧ tmI M (p : Int) 0 / 32 = hd L := by
  cases L with
  | nil => exact absurd rfl hne
  | cons t L =>
    obtain ⟨c1, c2, -⟩ := tm_ok (j := 0) hL ok rfl
    rw [show ((0 : Nat) : Int) = 0 from rfl] at c1 c2
    exact ⟨c1, c2⟩
set_option maxRecDepth 100000 in
set_option maxHeartbeats 4000000 in
theorem e_takesOff (X : CX) (M : Mem) (o : Int) (pl : List Po) (hs : Shp M) (ho : mI M 521 0 = o) (ho2 : 0 ≤ o ∧ o ≤ 2) (hR : RP M pl) (hok : okL pl) (hne : pl ≠ []) : Ev X y_m_takesOff (0, 0) [aR (some 521)] M (TO M o pl) := by
  have hlen : 0 < pl.length := List.length_pos_iff.mpr hne
  obtain ⟨r1, r2, r3⟩ := hR
  have shift : ∀ (low : Nat) (K0 : Po), pl[low]? = some K0 → ∀ (d k : Nat) (M1 : Mem), k + d + 1 = pl.length → low ≤ k → mI M1 521 11 = (pl.length : Int) - 1 → TP M1 7 K0 → Fr M M1 (fun a => a = 7 ∨ 32 ≤ a) (fun k => k = 11) NN → (∀ j L, (if low ≤ j ∧ j < k then pl[j + 1]? else pl[j]?) = some L → TP M1 (32 + j) L) → G X y_m_takesOff (mZ M, mS M, 0, 0) 43 [some (aR (some 521)), some (aI low), some (aI k)] [] M1 (fun r M' => r = none ∧ TP M' 7 K0 ∧ RP M' (pl.eraseIdx low) ∧ Fr M M' (fun a => a = 7 ∨ 32 ≤ a) (fun k => k = 11) NN) := by
    intro low K0 hlow d
    have hll := (List.getElem?_eq_some_iff.mp hlow).1
    induction d with
    | zero =>
      intro k M1 hk hlk h11 h7 hF hv
      have hs1 := hF.shp hs
      have hge : (pl.length : Int) - 1 ≤ (k : Int) := by omega
      refine G_w (pfb_ok X) LK_137 (fun i => i == 43) 20 _ _ _ _ ?_
      simp only [f_0, f_s, f_iconst, f_bipush, f_sipush, f_ldc, f_ldc_w, f_ldc2_w, f_ldI, f_ldL, f_ldA, f_iload, f_iload_n, f_lload, f_lload_n, f_aload, f_aload_n, f_istore, f_istore_n, f_lstore, f_lstore_n, f_astore, f_astore_n, f_iinc, f_icI, f_iadd, f_isub, f_imul, f_idiv, f_irem, f_iand, f_ior, f_ixor, f_ishl, f_ishr, f_iushr, f_i2l, f_i2b, f_i2s, f_ladd, f_lmul, f_lcmp, f_dupI, f_dupR, f_dup2, f_pop, f_goto, f_if, f_icmp, f_tab, f_ts0, f_ts1, f_getI, f_getZ, f_getR, f_putI, f_putR, f_gets, f_iald, f_bald, f_aald, f_iast, f_bast, f_aast, f_alen, f_new, f_newa, f_anew, f_virt, f_stat0, f_stat1, f_spec0, f_spec1, f_spec9, f_copy, f_max, f_min, f_cV1, f_cV0, f_cS1, f_cS0, f_iret, f_lret, f_vret, f_kG, pf0, cIg, inR, lget, lset, lset2, clr, entL, cnd, psh, catS, tsw, List.take_succ_cons, List.take_zero, List.drop_succ_cons, List.drop_zero, List.reverse_cons, List.reverse_nil, List.nil_append, List.cons_append, List.length_cons, List.length_nil, List.replicate_succ, List.replicate_zero, Nat.reduceAdd, Nat.reduceSub, Nat.reduceLeDiff, Nat.reduceLT, Nat.reduceEqDiff, Nat.reduceMul, Nat.zero_add, Nat.add_zero, Nat.le_refl, Nat.zero_le, Int.reduceEq, Int.reduceToNat, Int.toNat_natCast, Int.reduceNeg, Int.reduceAdd, Int.reduceSub, Int.reduceMul, Int.reduceLT, Int.reduceLE, Int.reduceDiv, Int.reduceMod, Bool.false_eq_true, ↓reduceIte, true_and, and_true, implies_true, forall_const, true_or, or_true, or_false, false_or, not_true_eq_false, not_false_eq_true, false_implies, Prod.mk.injEq, Fin.val_zero, Fin.val_one, Fin.isValue, Fin.reduceFinMk, Fin.val_two, mR_uI, mK_uI, mN_uI, mI_uR, mK_uR, mN_uR, mR_uC, mK_uC, mN_uC, Option.some.injEq, Sum.inl.injEq, Sum.inr.injEq, decide_true, decide_false, Bool.or_false, Bool.false_or, Bool.or_true, Bool.true_or, Nat.reduceBEq, beq_self_eq_true, show tb 137 = tb_137 from rfl, tb_137, tb_137_0, tb_137_1, pfb, pfb_b, pfb_c, pfb_v, pfa_b, pfa_c, pfa_v, hs1.mk521, h11, hge]
      have hle : (pl.eraseIdx low).length = pl.length - 1 := by rw [List.length_eraseIdx, if_pos hll]
      refine ⟨h7, ⟨by rw [h11, hle]; omega, by omega, fun j L hj => ?_⟩, hF⟩
      have hj2 := (List.getElem?_eq_some_iff.mp hj).1
      rw [hle] at hj2
      rw [List.getElem?_eraseIdx] at hj
      apply hv
      by_cases h9 : j < low
      · rw [if_neg (by omega)]; rw [if_pos h9] at hj; exact hj
      · rw [if_pos (by omega)]; rw [if_neg h9] at hj; exact hj
    | succ d ih =>
      intro k M1 hk hlk h11 h7 hF hv
      have hs1 := hF.shp hs
      have hge : ¬ (pl.length : Int) - 1 ≤ (k : Int) := by omega
      obtain ⟨u, hu⟩ : ∃ u, pl[k + 1]? = some u := ⟨_, List.getElem?_eq_getElem (by omega)⟩
      have hTu := hv (k + 1) u (by rw [if_neg (by omega)]; exact hu)
      refine G_w (pfb_ok X) LK_137 (fun i => i == 43) 20 _ _ _ _ ?_
      simp only [f_0, f_s, f_iconst, f_bipush, f_sipush, f_ldc, f_ldc_w, f_ldc2_w, f_ldI, f_ldL, f_ldA, f_iload, f_iload_n, f_lload, f_lload_n, f_aload, f_aload_n, f_istore, f_istore_n, f_lstore, f_lstore_n, f_astore, f_astore_n, f_iinc, f_icI, f_iadd, f_isub, f_imul, f_idiv, f_irem, f_iand, f_ior, f_ixor, f_ishl, f_ishr, f_iushr, f_i2l, f_i2b, f_i2s, f_ladd, f_lmul, f_lcmp, f_dupI, f_dupR, f_dup2, f_pop, f_goto, f_if, f_icmp, f_tab, f_ts0, f_ts1, f_getI, f_getZ, f_getR, f_putI, f_putR, f_gets, f_iald, f_bald, f_aald, f_iast, f_bast, f_aast, f_alen, f_new, f_newa, f_anew, f_virt, f_stat0, f_stat1, f_spec0, f_spec1, f_spec9, f_copy, f_max, f_min, f_cV1, f_cV0, f_cS1, f_cS0, f_iret, f_lret, f_vret, f_kG, pf0, cIg, inR, lget, lset, lset2, clr, entL, cnd, psh, catS, tsw, List.take_succ_cons, List.take_zero, List.drop_succ_cons, List.drop_zero, List.reverse_cons, List.reverse_nil, List.nil_append, List.cons_append, List.length_cons, List.length_nil, List.replicate_succ, List.replicate_zero, Nat.reduceAdd, Nat.reduceSub, Nat.reduceLeDiff, Nat.reduceLT, Nat.reduceEqDiff, Nat.reduceMul, Nat.zero_add, Nat.add_zero, Nat.le_refl, Nat.zero_le, Int.reduceEq, Int.reduceToNat, Int.toNat_natCast, Int.reduceNeg, Int.reduceAdd, Int.reduceSub, Int.reduceMul, Int.reduceLT, Int.reduceLE, Int.reduceDiv, Int.reduceMod, Bool.false_eq_true, ↓reduceIte, true_and, and_true, implies_true, forall_const, true_or, or_true, or_false, false_or, not_true_eq_false, not_false_eq_true, false_implies, Prod.mk.injEq, Fin.val_zero, Fin.val_one, Fin.isValue, Fin.reduceFinMk, Fin.val_two, mR_uI, mK_uI, mN_uI, mI_uR, mK_uR, mN_uR, mR_uC, mK_uC, mN_uC, Option.some.injEq, Sum.inl.injEq, Sum.inr.injEq, decide_true, decide_false, Bool.or_false, Bool.false_or, Bool.or_true, Bool.true_or, Nat.reduceBEq, beq_self_eq_true, show tb 137 = tb_137 from rfl, tb_137, tb_137_0, tb_137_1, pfb, pfb_b, pfb_c, pfb_v, pfa_b, pfa_c, pfa_v, hs1.mk521, h11, hge]
      refine ⟨by omega, by omega, by omega, ?_⟩
      have e1 : (32 : Int) + (k : Int) + 1 = ((32 + (k + 1) : Nat) : Int) := by omega
      have e2 : (32 : Int) + (k : Int) = ((32 + k : Nat) : Int) := by omega
      rw [e1, e2]
      refine Ev_mono (e_copies X M1 (32 + (k + 1)) (32 + k) u hs1 hTu (by omega) (by omega)) (fun r M2 hr _ _ => ?_)
      obtain ⟨rfl, w1, w2⟩ := hr
      simp only [f_kG, psh, Nat.reduceAdd]
      refine G_w (pfb_ok X) LK_137 (fun i => i == 43) 20 _ _ _ _ ?_
      simp only [f_0, f_s, f_iconst, f_bipush, f_sipush, f_ldc, f_ldc_w, f_ldc2_w, f_ldI, f_ldL, f_ldA, f_iload, f_iload_n, f_lload, f_lload_n, f_aload, f_aload_n, f_istore, f_istore_n, f_lstore, f_lstore_n, f_astore, f_astore_n, f_iinc, f_icI, f_iadd, f_isub, f_imul, f_idiv, f_irem, f_iand, f_ior, f_ixor, f_ishl, f_ishr, f_iushr, f_i2l, f_i2b, f_i2s, f_ladd, f_lmul, f_lcmp, f_dupI, f_dupR, f_dup2, f_pop, f_goto, f_if, f_icmp, f_tab, f_ts0, f_ts1, f_getI, f_getZ, f_getR, f_putI, f_putR, f_gets, f_iald, f_bald, f_aald, f_iast, f_bast, f_aast, f_alen, f_new, f_newa, f_anew, f_virt, f_stat0, f_stat1, f_spec0, f_spec1, f_spec9, f_copy, f_max, f_min, f_cV1, f_cV0, f_cS1, f_cS0, f_iret, f_lret, f_vret, f_kG, pf0, cIg, inR, lget, lset, lset2, clr, entL, cnd, psh, catS, tsw, List.take_succ_cons, List.take_zero, List.drop_succ_cons, List.drop_zero, List.reverse_cons, List.reverse_nil, List.nil_append, List.cons_append, List.length_cons, List.length_nil, List.replicate_succ, List.replicate_zero, Nat.reduceAdd, Nat.reduceSub, Nat.reduceLeDiff, Nat.reduceLT, Nat.reduceEqDiff, Nat.reduceMul, Nat.zero_add, Nat.add_zero, Nat.le_refl, Nat.zero_le, Int.reduceEq, Int.reduceToNat, Int.toNat_natCast, Int.reduceNeg, Int.reduceAdd, Int.reduceSub, Int.reduceMul, Int.reduceLT, Int.reduceLE, Int.reduceDiv, Int.reduceMod, Bool.false_eq_true, ↓reduceIte, true_and, and_true, implies_true, forall_const, true_or, or_true, or_false, false_or, not_true_eq_false, not_false_eq_true, false_implies, Prod.mk.injEq, Fin.val_zero, Fin.val_one, Fin.isValue, Fin.reduceFinMk, Fin.val_two, mR_uI, mK_uI, mN_uI, mI_uR, mK_uR, mN_uR, mR_uC, mK_uC, mN_uC, Option.some.injEq, Sum.inl.injEq, Sum.inr.injEq, decide_true, decide_false, Bool.or_false, Bool.false_or, Bool.or_true, Bool.true_or, Nat.reduceBEq, beq_self_eq_true, show tb 137 = tb_137 from rfl, tb_137, tb_137_0, tb_137_1, pfb, pfb_b, pfb_c, pfb_v, pfa_b, pfa_c, pfa_v]
      refine ⟨by omega, ih (k + 1) M2 (by omega) (by omega) ((w2.2.1 11 (fun h => h)).trans h11) (h7.fr w2 (by omega) (by omega)) (hF.tr (w2.w (fun a h => by omega) (fun _ h => h.elim) (fun _ h => h))) (fun j L hj => ?_)⟩
      by_cases hjk : j = k
      · subst hjk
        rw [if_pos (by omega), hu] at hj
        cases hj
        exact w1
      · have hj9 : (if low ≤ j ∧ j < k then pl[j + 1]? else pl[j]?) = some L := by
          by_cases h9 : low ≤ j ∧ j < k
          · rw [if_pos h9]; rw [if_pos (by omega)] at hj; exact hj
          · rw [if_neg h9]; rw [if_neg (by omega)] at hj; exact hj
        have hjb : j < pl.length := by
          by_cases h9 : low ≤ j ∧ j < k
          · omega
          · rw [if_neg h9] at hj9; exact (List.getElem?_eq_some_iff.mp hj9).1
        exact (hv j L hj9).fr w2 (by omega) (by omega)
  have loop : ∀ (d low i : Nat), i + d = pl.length → low < pl.length → lowF o pl d low i = lowI o pl → G X y_m_takesOff (mZ M, mS M, 0, 0) 4 [some (aR (some 521)), some (aI low), some (aI i)] [] M (TO M o pl) := by
    intro d
    induction d with
    | zero =>
      intro low i hi hlow he
      have hge : (pl.length : Int) ≤ (i : Int) := by omega
      have he : low = lowI o pl := he
      subst he
      obtain ⟨K0, hK0⟩ : ∃ K, pl[lowI o pl]? = some K := ⟨_, List.getElem?_eq_getElem hlow⟩
      refine G_w (pfb_ok X) LK_137 (fun i => i == 43) 20 _ _ _ _ ?_
      simp only [f_0, f_s, f_iconst, f_bipush, f_sipush, f_ldc, f_ldc_w, f_ldc2_w, f_ldI, f_ldL, f_ldA, f_iload, f_iload_n, f_lload, f_lload_n, f_aload, f_aload_n, f_istore, f_istore_n, f_lstore, f_lstore_n, f_astore, f_astore_n, f_iinc, f_icI, f_iadd, f_isub, f_imul, f_idiv, f_irem, f_iand, f_ior, f_ixor, f_ishl, f_ishr, f_iushr, f_i2l, f_i2b, f_i2s, f_ladd, f_lmul, f_lcmp, f_dupI, f_dupR, f_dup2, f_pop, f_goto, f_if, f_icmp, f_tab, f_ts0, f_ts1, f_getI, f_getZ, f_getR, f_putI, f_putR, f_gets, f_iald, f_bald, f_aald, f_iast, f_bast, f_aast, f_alen, f_new, f_newa, f_anew, f_virt, f_stat0, f_stat1, f_spec0, f_spec1, f_spec9, f_copy, f_max, f_min, f_cV1, f_cV0, f_cS1, f_cS0, f_iret, f_lret, f_vret, f_kG, pf0, cIg, inR, lget, lset, lset2, clr, entL, cnd, psh, catS, tsw, List.take_succ_cons, List.take_zero, List.drop_succ_cons, List.drop_zero, List.reverse_cons, List.reverse_nil, List.nil_append, List.cons_append, List.length_cons, List.length_nil, List.replicate_succ, List.replicate_zero, Nat.reduceAdd, Nat.reduceSub, Nat.reduceLeDiff, Nat.reduceLT, Nat.reduceEqDiff, Nat.reduceMul, Nat.zero_add, Nat.add_zero, Nat.le_refl, Nat.zero_le, Int.reduceEq, Int.reduceToNat, Int.toNat_natCast, Int.reduceNeg, Int.reduceAdd, Int.reduceSub, Int.reduceMul, Int.reduceLT, Int.reduceLE, Int.reduceDiv, Int.reduceMod, Bool.false_eq_true, ↓reduceIte, true_and, and_true, implies_true, forall_const, true_or, or_true, or_false, false_or, not_true_eq_false, not_false_eq_true, false_implies, Prod.mk.injEq, Fin.val_zero, Fin.val_one, Fin.isValue, Fin.reduceFinMk, Fin.val_two, mR_uI, mK_uI, mN_uI, mI_uR, mK_uR, mN_uR, mR_uC, mK_uC, mN_uC, Option.some.injEq, Sum.inl.injEq, Sum.inr.injEq, decide_true, decide_false, Bool.or_false, Bool.false_or, Bool.or_true, Bool.true_or, Nat.reduceBEq, beq_self_eq_true, show tb 137 = tb_137 from rfl, tb_137, tb_137_0, tb_137_1, pfb, pfb_b, pfb_c, pfb_v, pfa_b, pfa_c, pfa_v, hs.mk521, r1, hge]
      refine ⟨by omega, ?_⟩
      have e2 : (32 : Int) + (lowI o pl : Int) = ((32 + lowI o pl : Nat) : Int) := by omega
      have e7 : (7 : Int) = ((7 : Nat) : Int) := rfl
      rw [e2, e7]
      refine Ev_mono (e_copies X M (32 + lowI o pl) 7 K0 hs (r3 _ _ hK0) (by omega) (by omega)) (fun r M1 hr _ _ => ?_)
      obtain ⟨rfl, w1, w2⟩ := hr
      have hs1 := w2.shp hs
      have c1 := (w2.2.1 11 (fun h => h)).trans r1
      simp only [f_kG, psh, Nat.reduceAdd]
      refine G_w (pfb_ok X) LK_137 (fun i => i == 43) 20 _ _ _ _ ?_
      simp only [f_0, f_s, f_iconst, f_bipush, f_sipush, f_ldc, f_ldc_w, f_ldc2_w, f_ldI, f_ldL, f_ldA, f_iload, f_iload_n, f_lload, f_lload_n, f_aload, f_aload_n, f_istore, f_istore_n, f_lstore, f_lstore_n, f_astore, f_astore_n, f_iinc, f_icI, f_iadd, f_isub, f_imul, f_idiv, f_irem, f_iand, f_ior, f_ixor, f_ishl, f_ishr, f_iushr, f_i2l, f_i2b, f_i2s, f_ladd, f_lmul, f_lcmp, f_dupI, f_dupR, f_dup2, f_pop, f_goto, f_if, f_icmp, f_tab, f_ts0, f_ts1, f_getI, f_getZ, f_getR, f_putI, f_putR, f_gets, f_iald, f_bald, f_aald, f_iast, f_bast, f_aast, f_alen, f_new, f_newa, f_anew, f_virt, f_stat0, f_stat1, f_spec0, f_spec1, f_spec9, f_copy, f_max, f_min, f_cV1, f_cV0, f_cS1, f_cS0, f_iret, f_lret, f_vret, f_kG, pf0, cIg, inR, lget, lset, lset2, clr, entL, cnd, psh, catS, tsw, List.take_succ_cons, List.take_zero, List.drop_succ_cons, List.drop_zero, List.reverse_cons, List.reverse_nil, List.nil_append, List.cons_append, List.length_cons, List.length_nil, List.replicate_succ, List.replicate_zero, Nat.reduceAdd, Nat.reduceSub, Nat.reduceLeDiff, Nat.reduceLT, Nat.reduceEqDiff, Nat.reduceMul, Nat.zero_add, Nat.add_zero, Nat.le_refl, Nat.zero_le, Int.reduceEq, Int.reduceToNat, Int.toNat_natCast, Int.reduceNeg, Int.reduceAdd, Int.reduceSub, Int.reduceMul, Int.reduceLT, Int.reduceLE, Int.reduceDiv, Int.reduceMod, Bool.false_eq_true, ↓reduceIte, true_and, and_true, implies_true, forall_const, true_or, or_true, or_false, false_or, not_true_eq_false, not_false_eq_true, false_implies, Prod.mk.injEq, Fin.val_zero, Fin.val_one, Fin.isValue, Fin.reduceFinMk, Fin.val_two, mR_uI, mK_uI, mN_uI, mI_uR, mK_uR, mN_uR, mR_uC, mK_uC, mN_uC, Option.some.injEq, Sum.inl.injEq, Sum.inr.injEq, decide_true, decide_false, Bool.or_false, Bool.false_or, Bool.or_true, Bool.true_or, Nat.reduceBEq, beq_self_eq_true, show tb 137 = tb_137 from rfl, tb_137, tb_137_0, tb_137_1, pfb, pfb_b, pfb_c, pfb_v, pfa_b, pfa_c, pfa_v, hs1.mk521, c1]
      have hF2 : Fr M1 (uI M1 521 11 (pl.length - 1)) NN (fun k => k = 11) NN := (Fr.rf M1 NN (fun k => k = 11) NN).uf rfl
      refine ⟨by omega, ?_⟩
      have hf := shift (lowI o pl) K0 hK0 (pl.length - 1 - lowI o pl) (lowI o pl) (uI M1 521 11 (pl.length - 1)) (by omega) (Nat.le_refl _) mI_uI_eq (w1.fr hF2 (by omega) (fun h => h)) ((w2.w (fun a h => Or.inl h) (fun _ h => h.elim) (fun _ h => h)).tr (hF2.w (fun _ h => h.elim) (fun _ h => h) (fun _ h => h))) (fun j L hj => by
        rw [if_neg (by omega)] at hj
        have hjb := (List.getElem?_eq_some_iff.mp hj).1
        exact ((r3 j L hj).fr w2 (by omega) (by omega)).fr hF2 (by omega) (fun h => h))
      unfold TO
      rw [getD_at hK0]
      exact hf
    | succ d ih =>
      intro low i hi hlow he
      have hge : ¬ (pl.length : Int) ≤ (i : Int) := by omega
      obtain ⟨K1, hK1⟩ : ∃ K, pl[low]? = some K := ⟨_, List.getElem?_eq_getElem hlow⟩
      obtain ⟨K2, hK2⟩ : ∃ K, pl[i]? = some K := ⟨_, List.getElem?_eq_getElem (by omega)⟩
      have ok1 := hok K1 (List.mem_of_getElem? hK1)
      have ok2 := hok K2 (List.mem_of_getElem? hK2)
      obtain ⟨a1, a2⟩ := hd_at2 (r3 low K1 hK1) ok1.1 ok1.2
      obtain ⟨b1, b2⟩ := hd_at2 (r3 i K2 hK2) ok2.1 ok2.2
      rw [show ((32 + low : Nat) : Int) = 32 + (low : Int) by omega] at a1 a2
      rw [show ((32 + i : Nat) : Int) = 32 + (i : Int) by omega] at b1 b2
      rw [lowF, getD_at hK1, getD_at hK2] at he
      refine G_w (pfb_ok X) LK_137 (fun i => i == 4) 30 _ _ _ _ ?_
      simp only [f_0, f_s, f_iconst, f_bipush, f_sipush, f_ldc, f_ldc_w, f_ldc2_w, f_ldI, f_ldL, f_ldA, f_iload, f_iload_n, f_lload, f_lload_n, f_aload, f_aload_n, f_istore, f_istore_n, f_lstore, f_lstore_n, f_astore, f_astore_n, f_iinc, f_icI, f_iadd, f_isub, f_imul, f_idiv, f_irem, f_iand, f_ior, f_ixor, f_ishl, f_ishr, f_iushr, f_i2l, f_i2b, f_i2s, f_ladd, f_lmul, f_lcmp, f_dupI, f_dupR, f_dup2, f_pop, f_goto, f_if, f_icmp, f_tab, f_ts0, f_ts1, f_getI, f_getZ, f_getR, f_putI, f_putR, f_gets, f_iald, f_bald, f_aald, f_iast, f_bast, f_aast, f_alen, f_new, f_newa, f_anew, f_virt, f_stat0, f_stat1, f_spec0, f_spec1, f_spec9, f_copy, f_max, f_min, f_cV1, f_cV0, f_cS1, f_cS0, f_iret, f_lret, f_vret, f_kG, pf0, cIg, inR, lget, lset, lset2, clr, entL, cnd, psh, catS, tsw, List.take_succ_cons, List.take_zero, List.drop_succ_cons, List.drop_zero, List.reverse_cons, List.reverse_nil, List.nil_append, List.cons_append, List.length_cons, List.length_nil, List.replicate_succ, List.replicate_zero, Nat.reduceAdd, Nat.reduceSub, Nat.reduceLeDiff, Nat.reduceLT, Nat.reduceEqDiff, Nat.reduceMul, Nat.zero_add, Nat.add_zero, Nat.le_refl, Nat.zero_le, Int.reduceEq, Int.reduceToNat, Int.toNat_natCast, Int.reduceNeg, Int.reduceAdd, Int.reduceSub, Int.reduceMul, Int.reduceLT, Int.reduceLE, Int.reduceDiv, Int.reduceMod, Bool.false_eq_true, ↓reduceIte, true_and, and_true, implies_true, forall_const, true_or, or_true, or_false, false_or, not_true_eq_false, not_false_eq_true, false_implies, Prod.mk.injEq, Fin.val_zero, Fin.val_one, Fin.isValue, Fin.reduceFinMk, Fin.val_two, mR_uI, mK_uI, mN_uI, mI_uR, mK_uR, mN_uR, mR_uC, mK_uC, mN_uC, Option.some.injEq, Sum.inl.injEq, Sum.inr.injEq, decide_true, decide_false, Bool.or_false, Bool.false_or, Bool.or_true, Bool.true_or, Nat.reduceBEq, beq_self_eq_true, show tb 137 = tb_137 from rfl, tb_137, tb_137_0, tb_137_1, pfb, pfb_b, pfb_c, pfb_v, pfa_b, pfa_c, pfa_v, hs.mk521, hs, r1, hge, a1, a2, b1, b2]
      refine ⟨by omega, ⟨by omega, by omega⟩, by omega, ⟨by omega, by omega⟩, ?_⟩
      refine Ev_mono (e_isAhead X M (hd K1) (hd K2) hs (hd_ok ok1.1 ok1.2) (hd_ok ok2.1 ok2.2) (by rw [ho]; exact ho2)) (fun r M2 hr _ _ => ?_)
      obtain ⟨rfl, hM2⟩ := hr
      subst hM2
      rw [ho]
      by_cases hlt : rk o (hd K2) < rk o (hd K1)
      · rw [if_pos hlt] at he ⊢
        simp only [f_kG, psh, Nat.reduceAdd]
        refine G_w (pfb_ok X) LK_137 (fun i => i == 4) 30 _ _ _ _ ?_
        simp only [f_0, f_s, f_iconst, f_bipush, f_sipush, f_ldc, f_ldc_w, f_ldc2_w, f_ldI, f_ldL, f_ldA, f_iload, f_iload_n, f_lload, f_lload_n, f_aload, f_aload_n, f_istore, f_istore_n, f_lstore, f_lstore_n, f_astore, f_astore_n, f_iinc, f_icI, f_iadd, f_isub, f_imul, f_idiv, f_irem, f_iand, f_ior, f_ixor, f_ishl, f_ishr, f_iushr, f_i2l, f_i2b, f_i2s, f_ladd, f_lmul, f_lcmp, f_dupI, f_dupR, f_dup2, f_pop, f_goto, f_if, f_icmp, f_tab, f_ts0, f_ts1, f_getI, f_getZ, f_getR, f_putI, f_putR, f_gets, f_iald, f_bald, f_aald, f_iast, f_bast, f_aast, f_alen, f_new, f_newa, f_anew, f_virt, f_stat0, f_stat1, f_spec0, f_spec1, f_spec9, f_copy, f_max, f_min, f_cV1, f_cV0, f_cS1, f_cS0, f_iret, f_lret, f_vret, f_kG, pf0, cIg, inR, lget, lset, lset2, clr, entL, cnd, psh, catS, tsw, List.take_succ_cons, List.take_zero, List.drop_succ_cons, List.drop_zero, List.reverse_cons, List.reverse_nil, List.nil_append, List.cons_append, List.length_cons, List.length_nil, List.replicate_succ, List.replicate_zero, Nat.reduceAdd, Nat.reduceSub, Nat.reduceLeDiff, Nat.reduceLT, Nat.reduceEqDiff, Nat.reduceMul, Nat.zero_add, Nat.add_zero, Nat.le_refl, Nat.zero_le, Int.reduceEq, Int.reduceToNat, Int.toNat_natCast, Int.reduceNeg, Int.reduceAdd, Int.reduceSub, Int.reduceMul, Int.reduceLT, Int.reduceLE, Int.reduceDiv, Int.reduceMod, Bool.false_eq_true, ↓reduceIte, true_and, and_true, implies_true, forall_const, true_or, or_true, or_false, false_or, not_true_eq_false, not_false_eq_true, false_implies, Prod.mk.injEq, Fin.val_zero, Fin.val_one, Fin.isValue, Fin.reduceFinMk, Fin.val_two, mR_uI, mK_uI, mN_uI, mI_uR, mK_uR, mN_uR, mR_uC, mK_uC, mN_uC, Option.some.injEq, Sum.inl.injEq, Sum.inr.injEq, decide_true, decide_false, Bool.or_false, Bool.false_or, Bool.or_true, Bool.true_or, Nat.reduceBEq, beq_self_eq_true, show tb 137 = tb_137 from rfl, tb_137, tb_137_0, tb_137_1, pfb, pfb_b, pfb_c, pfb_v, pfa_b, pfa_c, pfa_v]
        exact ⟨by omega, ih i (i + 1) (by omega) (by omega) he⟩
      · rw [if_neg hlt] at he ⊢
        simp only [f_kG, psh, Nat.reduceAdd]
        refine G_w (pfb_ok X) LK_137 (fun i => i == 4) 30 _ _ _ _ ?_
        simp only [f_0, f_s, f_iconst, f_bipush, f_sipush, f_ldc, f_ldc_w, f_ldc2_w, f_ldI, f_ldL, f_ldA, f_iload, f_iload_n, f_lload, f_lload_n, f_aload, f_aload_n, f_istore, f_istore_n, f_lstore, f_lstore_n, f_astore, f_astore_n, f_iinc, f_icI, f_iadd, f_isub, f_imul, f_idiv, f_irem, f_iand, f_ior, f_ixor, f_ishl, f_ishr, f_iushr, f_i2l, f_i2b, f_i2s, f_ladd, f_lmul, f_lcmp, f_dupI, f_dupR, f_dup2, f_pop, f_goto, f_if, f_icmp, f_tab, f_ts0, f_ts1, f_getI, f_getZ, f_getR, f_putI, f_putR, f_gets, f_iald, f_bald, f_aald, f_iast, f_bast, f_aast, f_alen, f_new, f_newa, f_anew, f_virt, f_stat0, f_stat1, f_spec0, f_spec1, f_spec9, f_copy, f_max, f_min, f_cV1, f_cV0, f_cS1, f_cS0, f_iret, f_lret, f_vret, f_kG, pf0, cIg, inR, lget, lset, lset2, clr, entL, cnd, psh, catS, tsw, List.take_succ_cons, List.take_zero, List.drop_succ_cons, List.drop_zero, List.reverse_cons, List.reverse_nil, List.nil_append, List.cons_append, List.length_cons, List.length_nil, List.replicate_succ, List.replicate_zero, Nat.reduceAdd, Nat.reduceSub, Nat.reduceLeDiff, Nat.reduceLT, Nat.reduceEqDiff, Nat.reduceMul, Nat.zero_add, Nat.add_zero, Nat.le_refl, Nat.zero_le, Int.reduceEq, Int.reduceToNat, Int.toNat_natCast, Int.reduceNeg, Int.reduceAdd, Int.reduceSub, Int.reduceMul, Int.reduceLT, Int.reduceLE, Int.reduceDiv, Int.reduceMod, Bool.false_eq_true, ↓reduceIte, true_and, and_true, implies_true, forall_const, true_or, or_true, or_false, false_or, not_true_eq_false, not_false_eq_true, false_implies, Prod.mk.injEq, Fin.val_zero, Fin.val_one, Fin.isValue, Fin.reduceFinMk, Fin.val_two, mR_uI, mK_uI, mN_uI, mI_uR, mK_uR, mN_uR, mR_uC, mK_uC, mN_uC, Option.some.injEq, Sum.inl.injEq, Sum.inr.injEq, decide_true, decide_false, Bool.or_false, Bool.false_or, Bool.or_true, Bool.true_or, Nat.reduceBEq, beq_self_eq_true, show tb 137 = tb_137 from rfl, tb_137, tb_137_0, tb_137_1, pfb, pfb_b, pfb_c, pfb_v, pfa_b, pfa_c, pfa_v]
        exact ⟨by omega, ih low (i + 1) (by omega) hlow he⟩
  refine Ev_of mcd_137 mok_137 (by decide) rfl (Nat.le_of_ble_eq_true rfl) ?_
  rw [show yl 137 = 3 from rfl]
  refine G_w (pfb_ok X) LK_137 (fun i => i == 4) 10 _ _ _ _ ?_
  simp only [f_0, f_s, f_iconst, f_bipush, f_sipush, f_ldc, f_ldc_w, f_ldc2_w, f_ldI, f_ldL, f_ldA, f_iload, f_iload_n, f_lload, f_lload_n, f_aload, f_aload_n, f_istore, f_istore_n, f_lstore, f_lstore_n, f_astore, f_astore_n, f_iinc, f_icI, f_iadd, f_isub, f_imul, f_idiv, f_irem, f_iand, f_ior, f_ixor, f_ishl, f_ishr, f_iushr, f_i2l, f_i2b, f_i2s, f_ladd, f_lmul, f_lcmp, f_dupI, f_dupR, f_dup2, f_pop, f_goto, f_if, f_icmp, f_tab, f_ts0, f_ts1, f_getI, f_getZ, f_getR, f_putI, f_putR, f_gets, f_iald, f_bald, f_aald, f_iast, f_bast, f_aast, f_alen, f_new, f_newa, f_anew, f_virt, f_stat0, f_stat1, f_spec0, f_spec1, f_spec9, f_copy, f_max, f_min, f_cV1, f_cV0, f_cS1, f_cS0, f_iret, f_lret, f_vret, f_kG, pf0, cIg, inR, lget, lset, lset2, clr, entL, cnd, psh, catS, tsw, List.take_succ_cons, List.take_zero, List.drop_succ_cons, List.drop_zero, List.reverse_cons, List.reverse_nil, List.nil_append, List.cons_append, List.length_cons, List.length_nil, List.replicate_succ, List.replicate_zero, Nat.reduceAdd, Nat.reduceSub, Nat.reduceLeDiff, Nat.reduceLT, Nat.reduceEqDiff, Nat.reduceMul, Nat.zero_add, Nat.add_zero, Nat.le_refl, Nat.zero_le, Int.reduceEq, Int.reduceToNat, Int.toNat_natCast, Int.reduceNeg, Int.reduceAdd, Int.reduceSub, Int.reduceMul, Int.reduceLT, Int.reduceLE, Int.reduceDiv, Int.reduceMod, Bool.false_eq_true, ↓reduceIte, true_and, and_true, implies_true, forall_const, true_or, or_true, or_false, false_or, not_true_eq_false, not_false_eq_true, false_implies, Prod.mk.injEq, Fin.val_zero, Fin.val_one, Fin.isValue, Fin.reduceFinMk, Fin.val_two, mR_uI, mK_uI, mN_uI, mI_uR, mK_uR, mN_uR, mR_uC, mK_uC, mN_uC, Option.some.injEq, Sum.inl.injEq, Sum.inr.injEq, decide_true, decide_false, Bool.or_false, Bool.false_or, Bool.or_true, Bool.true_or, Nat.reduceBEq, beq_self_eq_true, show tb 137 = tb_137 from rfl, tb_137, tb_137_0, tb_137_1, pfb, pfb_b, pfb_c, pfb_v, pfa_b, pfa_c, pfa_v]
  exact loop (pl.length - 1) 0 1 (by omega) hlen rfl
