/-! makesMonic, adds -/
set_option maxRecDepth 100000 in
set_option maxHeartbeats 4000000 in
theorem e_makesMonic (X : CX) (M : Mem) (p : Nat) (L : Po) (hs : Shp M) (hL : TP M p L) (ok : okP L) (hne : L ≠ []) (hp : p < 132) : Ev X y_m_makesMonic (0, 0) [aR (some 521), aI p] M (fun r M' => r = none ∧ TP M' p (mon L) ∧ Fr M M' (fun a => a = p) NN NN) := by
  cases L with
  | nil => exact absurd rfl hne
  | cons t0 L0 =>
    have ok0 := ok t0 List.mem_cons_self
    obtain ⟨b1, b2, b3⟩ := tm_ok (j := 0) hL ok rfl
    have hl30 := hL.2.1
    have hlc : (t0 :: L0).length = L0.length + 1 := rfl
    have h0 : ((0 : Nat) : Int) = 0 := rfl
    rw [h0] at b1 b2 b3
    obtain ⟨n0, hn0⟩ := Int.eq_ofNat_of_zero_le (show 0 ≤ t0.1 by have := ok0.1; omega)
    have hib := (inv31_b n0 (by have := ok0.1; omega) (by have := ok0.1; omega)).1
    rw [← hn0] at hib
    refine Ev_of mcd_135 mok_135 (by decide) rfl (Nat.le_of_ble_eq_true rfl) ?_
    rw [show yl 135 = 4 from rfl]
    refine G_w (pfb_ok X) LK_135 (fun i => false) 20 _ _ _ _ ?_
    simp only [f_0, f_s, f_iconst, f_bipush, f_sipush, f_ldc, f_ldc_w, f_ldc2_w, f_ldI, f_ldL, f_ldA, f_iload, f_iload_n, f_lload, f_lload_n, f_aload, f_aload_n, f_istore, f_istore_n, f_lstore, f_lstore_n, f_astore, f_astore_n, f_iinc, f_icI, f_iadd, f_isub, f_imul, f_idiv, f_irem, f_iand, f_ior, f_ixor, f_ishl, f_ishr, f_iushr, f_i2l, f_i2b, f_i2s, f_ladd, f_lmul, f_lcmp, f_dupI, f_dupR, f_dup2, f_pop, f_goto, f_if, f_icmp, f_tab, f_ts0, f_ts1, f_getI, f_getZ, f_getR, f_putI, f_putR, f_gets, f_iald, f_bald, f_aald, f_iast, f_bast, f_aast, f_alen, f_new, f_newa, f_anew, f_virt, f_stat0, f_stat1, f_spec0, f_spec1, f_spec9, f_copy, f_max, f_min, f_cV1, f_cV0, f_cS1, f_cS0, f_iret, f_lret, f_vret, f_kG, pf0, cIg, inR, lget, lset, lset2, clr, entL, cnd, psh, catS, tsw, List.take_succ_cons, List.take_zero, List.drop_succ_cons, List.drop_zero, List.reverse_cons, List.reverse_nil, List.nil_append, List.cons_append, List.length_cons, List.length_nil, List.replicate_succ, List.replicate_zero, Nat.reduceAdd, Nat.reduceSub, Nat.reduceLeDiff, Nat.reduceLT, Nat.reduceEqDiff, Nat.reduceMul, Nat.zero_add, Nat.add_zero, Nat.le_refl, Nat.zero_le, Int.reduceEq, Int.reduceToNat, Int.toNat_natCast, Int.reduceNeg, Int.reduceAdd, Int.reduceSub, Int.reduceMul, Int.reduceLT, Int.reduceLE, Int.reduceDiv, Int.reduceMod, Bool.false_eq_true, ↓reduceIte, true_and, and_true, implies_true, forall_const, true_or, or_true, or_false, false_or, not_true_eq_false, not_false_eq_true, false_implies, Prod.mk.injEq, Fin.val_zero, Fin.val_one, Fin.isValue, Fin.reduceFinMk, Fin.val_two, mR_uI, mK_uI, mN_uI, mI_uR, mK_uR, mN_uR, mR_uC, mK_uC, mN_uC, Option.some.injEq, Sum.inl.injEq, Sum.inr.injEq, decide_true, decide_false, Bool.or_false, Bool.false_or, Bool.or_true, Bool.true_or, Nat.reduceBEq, beq_self_eq_true, show tb 135 = tb_135 from rfl, tb_135, tb_135_0, tb_135_1, pfb, pfb_b, pfb_c, pfb_v, pfa_b, pfa_c, pfa_v, hs.mk521, hs, b1, b3]
    refine ⟨by omega, ?_⟩
    refine Ev_mono (e_inverse X M t0.1 ok0.1) (fun r M9 hr _ _ => ?_)
    obtain ⟨rfl, hM9⟩ := hr
    have loop : ∀ (d j : Nat) (M1 : Mem), j + d = (t0 :: L0).length → Fr M M1 (fun a => a = p) NN NN → mI M1 523 p = (t0 :: L0).length → (∀ i t, (t0 :: L0)[i]? = some t → mI M1 522 (30 * p + i) = 32 * t.2 + (if i < j then (monT t0.1 t).1 else t.1)) → G X y_m_makesMonic (mZ M, mS M, 0, 0) 8 [some (aR (some 521)), some (aI p), some (aI (inv31 t0.1)), some (aI j)] [] M1 (fun r M' => r = none ∧ TP M' p (mon (t0 :: L0)) ∧ Fr M M' (fun a => a = p) NN NN) := by
      intro d
      induction d with
      | zero =>
        intro j M1 hj hF hz hv
        have hs1 := hF.shp hs
        have hge : ((L0.length + 1 : Nat) : Int) ≤ (j : Int) := by omega
        rw [hlc] at hz
        refine G_w (pfb_ok X) LK_135 (fun i => i == 8) 40 _ _ _ _ ?_
        simp only [f_0, f_s, f_iconst, f_bipush, f_sipush, f_ldc, f_ldc_w, f_ldc2_w, f_ldI, f_ldL, f_ldA, f_iload, f_iload_n, f_lload, f_lload_n, f_aload, f_aload_n, f_istore, f_istore_n, f_lstore, f_lstore_n, f_astore, f_astore_n, f_iinc, f_icI, f_iadd, f_isub, f_imul, f_idiv, f_irem, f_iand, f_ior, f_ixor, f_ishl, f_ishr, f_iushr, f_i2l, f_i2b, f_i2s, f_ladd, f_lmul, f_lcmp, f_dupI, f_dupR, f_dup2, f_pop, f_goto, f_if, f_icmp, f_tab, f_ts0, f_ts1, f_getI, f_getZ, f_getR, f_putI, f_putR, f_gets, f_iald, f_bald, f_aald, f_iast, f_bast, f_aast, f_alen, f_new, f_newa, f_anew, f_virt, f_stat0, f_stat1, f_spec0, f_spec1, f_spec9, f_copy, f_max, f_min, f_cV1, f_cV0, f_cS1, f_cS0, f_iret, f_lret, f_vret, f_kG, pf0, cIg, inR, lget, lset, lset2, clr, entL, cnd, psh, catS, tsw, List.take_succ_cons, List.take_zero, List.drop_succ_cons, List.drop_zero, List.reverse_cons, List.reverse_nil, List.nil_append, List.cons_append, List.length_cons, List.length_nil, List.replicate_succ, List.replicate_zero, Nat.reduceAdd, Nat.reduceSub, Nat.reduceLeDiff, Nat.reduceLT, Nat.reduceEqDiff, Nat.reduceMul, Nat.zero_add, Nat.add_zero, Nat.le_refl, Nat.zero_le, Int.reduceEq, Int.reduceToNat, Int.toNat_natCast, Int.reduceNeg, Int.reduceAdd, Int.reduceSub, Int.reduceMul, Int.reduceLT, Int.reduceLE, Int.reduceDiv, Int.reduceMod, Bool.false_eq_true, ↓reduceIte, true_and, and_true, implies_true, forall_const, true_or, or_true, or_false, false_or, not_true_eq_false, not_false_eq_true, false_implies, Prod.mk.injEq, Fin.val_zero, Fin.val_one, Fin.isValue, Fin.reduceFinMk, Fin.val_two, mR_uI, mK_uI, mN_uI, mI_uR, mK_uR, mN_uR, mR_uC, mK_uC, mN_uC, Option.some.injEq, Sum.inl.injEq, Sum.inr.injEq, decide_true, decide_false, Bool.or_false, Bool.false_or, Bool.or_true, Bool.true_or, Nat.reduceBEq, beq_self_eq_true, show tb 135 = tb_135 from rfl, tb_135, tb_135_0, tb_135_1, pfb, pfb_b, pfb_c, pfb_v, pfa_b, pfa_c, pfa_v, hs1.mr1, hs1.mr2, hs1.mr3, hs1.mr4, hs1.mr5, hs1.mr14, hs1.mr15, hs1.mr16, hs1.mr18, hs1.mr19, hs1.mr20, hs1.mr21, hs1.mr22, hs1.mr23, hs1.mk521, hs1.mk522, hs1.mn522, hs1.mk523, hs1.mn523, hs1.mk524, hs1.mn524, hs1.mk525, hs1.mn525, hs1.mk526, hs1.mn526, hs1.mk527, hs1.mn527, hs1.mk528, hs1.mn528, hs1.mk529, hs1.mn529, hs1.mk530, hs1.mn530, hs1.mk531, hs1.mn531, hs1.mk532, hs1.mn532, hs1.mk533, hs1.mn533, hs1.mk534, hs1.mn534, hs1.mk535, hs1.mn535, hz, hge]
        have hfin : TP M1 p (mon (t0 :: L0)) := by
          refine ⟨by rw [hz]; simp [mon], by simpa [mon] using hl30, fun k t ht => ?_⟩
          have hk : k < (t0 :: L0).length := by
            have := (List.getElem?_eq_some_iff.mp ht).1
            simpa [mon] using this
          obtain ⟨u, hu⟩ : ∃ u, (t0 :: L0)[k]? = some u := ⟨_, List.getElem?_eq_getElem hk⟩
          have hmu : (mon (t0 :: L0))[k]? = some (monT t0.1 u) := by rw [show mon (t0 :: L0) = (t0 :: L0).map (monT t0.1) from rfl, List.getElem?_map, hu]; rfl
          rw [hmu] at ht
          cases ht
          rw [hv k u hu, if_pos (by omega)]
          rfl
        (repeat' (first | with_reducible apply And.intro | with_reducible intro _)) <;> (try omega)
        all_goals first | exact hfin | exact hF
      | succ d ih =>
        intro j M1 hj hF hz hv
        have hs1 := hF.shp hs
        obtain ⟨u, hu⟩ : ∃ u, (t0 :: L0)[j]? = some u := ⟨_, List.getElem?_eq_getElem (by omega)⟩
        have hvj := hv j u hu
        rw [if_neg (by omega)] at hvj
        have oku := ok u (List.mem_of_getElem? hu)
        have oku1 := oku.1
        have oku2 := oku.2
        unfold isPr at oku2
        have c1 : 0 ≤ tmI M1 p j ∧ tmI M1 p j ≤ 2147483647 := by rw [tm_at, hvj]; omega
        have c2 : tmI M1 p j / 32 = u.2 := by rw [tm_at, hvj]; omega
        have c3 : tmI M1 p j % 32 = u.1 := by rw [tm_at, hvj]; omega
        have hmul : 0 ≤ u.1 * inv31 t0.1 ∧ u.1 * inv31 t0.1 ≤ 900 := ⟨Int.mul_nonneg (by omega) (by omega), Int.mul_le_mul (a := u.1) (b := inv31 t0.1) (c := 30) (d := 30) (by omega) (by omega) (by omega) (by omega)⟩
        have e1 : ((30 : Int) * (p : Int) + (j : Int)).toNat = 30 * p + j := by omega
        have hge : ¬ ((L0.length + 1 : Nat) : Int) ≤ (j : Int) := by omega
        have hz2 := hz
        rw [hlc] at hz2
        refine G_w (pfb_ok X) LK_135 (fun i => i == 8) 40 _ _ _ _ ?_
        simp only [f_0, f_s, f_iconst, f_bipush, f_sipush, f_ldc, f_ldc_w, f_ldc2_w, f_ldI, f_ldL, f_ldA, f_iload, f_iload_n, f_lload, f_lload_n, f_aload, f_aload_n, f_istore, f_istore_n, f_lstore, f_lstore_n, f_astore, f_astore_n, f_iinc, f_icI, f_iadd, f_isub, f_imul, f_idiv, f_irem, f_iand, f_ior, f_ixor, f_ishl, f_ishr, f_iushr, f_i2l, f_i2b, f_i2s, f_ladd, f_lmul, f_lcmp, f_dupI, f_dupR, f_dup2, f_pop, f_goto, f_if, f_icmp, f_tab, f_ts0, f_ts1, f_getI, f_getZ, f_getR, f_putI, f_putR, f_gets, f_iald, f_bald, f_aald, f_iast, f_bast, f_aast, f_alen, f_new, f_newa, f_anew, f_virt, f_stat0, f_stat1, f_spec0, f_spec1, f_spec9, f_copy, f_max, f_min, f_cV1, f_cV0, f_cS1, f_cS0, f_iret, f_lret, f_vret, f_kG, pf0, cIg, inR, lget, lset, lset2, clr, entL, cnd, psh, catS, tsw, List.take_succ_cons, List.take_zero, List.drop_succ_cons, List.drop_zero, List.reverse_cons, List.reverse_nil, List.nil_append, List.cons_append, List.length_cons, List.length_nil, List.replicate_succ, List.replicate_zero, Nat.reduceAdd, Nat.reduceSub, Nat.reduceLeDiff, Nat.reduceLT, Nat.reduceEqDiff, Nat.reduceMul, Nat.zero_add, Nat.add_zero, Nat.le_refl, Nat.zero_le, Int.reduceEq, Int.reduceToNat, Int.toNat_natCast, Int.reduceNeg, Int.reduceAdd, Int.reduceSub, Int.reduceMul, Int.reduceLT, Int.reduceLE, Int.reduceDiv, Int.reduceMod, Bool.false_eq_true, ↓reduceIte, true_and, and_true, implies_true, forall_const, true_or, or_true, or_false, false_or, not_true_eq_false, not_false_eq_true, false_implies, Prod.mk.injEq, Fin.val_zero, Fin.val_one, Fin.isValue, Fin.reduceFinMk, Fin.val_two, mR_uI, mK_uI, mN_uI, mI_uR, mK_uR, mN_uR, mR_uC, mK_uC, mN_uC, Option.some.injEq, Sum.inl.injEq, Sum.inr.injEq, decide_true, decide_false, Bool.or_false, Bool.false_or, Bool.or_true, Bool.true_or, Nat.reduceBEq, beq_self_eq_true, show tb 135 = tb_135 from rfl, tb_135, tb_135_0, tb_135_1, pfb, pfb_b, pfb_c, pfb_v, pfa_b, pfa_c, pfa_v, hs1.mr1, hs1.mr2, hs1.mr3, hs1.mr4, hs1.mr5, hs1.mr14, hs1.mr15, hs1.mr16, hs1.mr18, hs1.mr19, hs1.mr20, hs1.mr21, hs1.mr22, hs1.mr23, hs1.mk521, hs1.mk522, hs1.mn522, hs1.mk523, hs1.mn523, hs1.mk524, hs1.mn524, hs1.mk525, hs1.mn525, hs1.mk526, hs1.mn526, hs1.mk527, hs1.mn527, hs1.mk528, hs1.mn528, hs1.mk529, hs1.mn529, hs1.mk530, hs1.mn530, hs1.mk531, hs1.mn531, hs1.mk532, hs1.mn532, hs1.mk533, hs1.mn533, hs1.mk534, hs1.mn534, hs1.mk535, hs1.mn535, hs1, hz2, c1, c2, c3, e1, hge]
        have hnext := ih (j + 1) (uI M1 522 (30 * p + j) (32 * u.2 + u.1 * inv31 t0.1 % 31)) (by omega) (hF.ut (j := j) rfl (by omega)) ((mI_uI_ne (by omega)).trans hz) (fun i t ht => by
          rw [mI_uI]
          by_cases hij : i = j
          · subst hij
            rw [hu] at ht; cases ht
            rw [if_pos ⟨rfl, rfl⟩, if_pos (by omega)]; rfl
          · rw [if_neg (fun h9 => hij (by omega)), hv i t ht]
            by_cases h8 : i < j
            · rw [if_pos h8, if_pos (by omega)]
            · rw [if_neg h8, if_neg (by omega)])
        (repeat' (first | with_reducible apply And.intro | with_reducible intro _)) <;> (try omega)
        all_goals exact hnext
    subst hM9
    simp only [f_kG, psh, Nat.reduceAdd]
    refine G_w (pfb_ok X) LK_135 (fun i => i == 8) 20 _ _ _ _ ?_
    simp only [f_0, f_s, f_iconst, f_bipush, f_sipush, f_ldc, f_ldc_w, f_ldc2_w, f_ldI, f_ldL, f_ldA, f_iload, f_iload_n, f_lload, f_lload_n, f_aload, f_aload_n, f_istore, f_istore_n, f_lstore, f_lstore_n, f_astore, f_astore_n, f_iinc, f_icI, f_iadd, f_isub, f_imul, f_idiv, f_irem, f_iand, f_ior, f_ixor, f_ishl, f_ishr, f_iushr, f_i2l, f_i2b, f_i2s, f_ladd, f_lmul, f_lcmp, f_dupI, f_dupR, f_dup2, f_pop, f_goto, f_if, f_icmp, f_tab, f_ts0, f_ts1, f_getI, f_getZ, f_getR, f_putI, f_putR, f_gets, f_iald, f_bald, f_aald, f_iast, f_bast, f_aast, f_alen, f_new, f_newa, f_anew, f_virt, f_stat0, f_stat1, f_spec0, f_spec1, f_spec9, f_copy, f_max, f_min, f_cV1, f_cV0, f_cS1, f_cS0, f_iret, f_lret, f_vret, f_kG, pf0, cIg, inR, lget, lset, lset2, clr, entL, cnd, psh, catS, tsw, List.take_succ_cons, List.take_zero, List.drop_succ_cons, List.drop_zero, List.reverse_cons, List.reverse_nil, List.nil_append, List.cons_append, List.length_cons, List.length_nil, List.replicate_succ, List.replicate_zero, Nat.reduceAdd, Nat.reduceSub, Nat.reduceLeDiff, Nat.reduceLT, Nat.reduceEqDiff, Nat.reduceMul, Nat.zero_add, Nat.add_zero, Nat.le_refl, Nat.zero_le, Int.reduceEq, Int.reduceToNat, Int.toNat_natCast, Int.reduceNeg, Int.reduceAdd, Int.reduceSub, Int.reduceMul, Int.reduceLT, Int.reduceLE, Int.reduceDiv, Int.reduceMod, Bool.false_eq_true, ↓reduceIte, true_and, and_true, implies_true, forall_const, true_or, or_true, or_false, false_or, not_true_eq_false, not_false_eq_true, false_implies, Prod.mk.injEq, Fin.val_zero, Fin.val_one, Fin.isValue, Fin.reduceFinMk, Fin.val_two, mR_uI, mK_uI, mN_uI, mI_uR, mK_uR, mN_uR, mR_uC, mK_uC, mN_uC, Option.some.injEq, Sum.inl.injEq, Sum.inr.injEq, decide_true, decide_false, Bool.or_false, Bool.false_or, Bool.or_true, Bool.true_or, Nat.reduceBEq, beq_self_eq_true, show tb 135 = tb_135 from rfl, tb_135, tb_135_0, tb_135_1, pfb, pfb_b, pfb_c, pfb_v, pfa_b, pfa_c, pfa_v]
    refine loop _ 0 M9 (Nat.zero_add _) (Fr.rf _ _ _ _) hL.1 (fun i t ht => ?_)
    rw [if_neg (by omega)]
    exact hL.2.2 i t ht
def AK (M : Mem) (p : Nat) (L : Po) (r : Option AV) (M' : Mem) : Prop := r = none ∧ TP M' p L ∧ Fr M M' (fun a => a = p) NN NN
set_option maxRecDepth 100000 in
set_option maxHeartbeats 4000000 in
theorem e_adds (X : CX) (M : Mem) (p : Nat) (n q o : Int) (L : Po) (hs : Shp M) (hL : TP M p L) (ok : okP L) (h30 : L.length < 30) (hn : 1 ≤ n ∧ n ≤ 30) (hq : isPr q) (hp : p < 132) (ho : mI M 521 0 = o) (ho2 : 0 ≤ o ∧ o ≤ 2) : Ev X y_m_adds (0, 0) [aR (some 521), aI p, aI q, aI n] M (AK M p (addT o n q L)) := by
  obtain ⟨l1, l2, l3⟩ := hL
  have hL0 : TP M p L := ⟨l1, l2, l3⟩
  have hle := idx_le o q L
  have hq0 := hq
  unfold isPr at hq0
  -- the terms behind come one forward
  have down : ∀ (d i : Nat) (M1 : Mem) (is now : Int), i + d + 1 = L.length → idx o q L ≤ i → Fr M M1 (fun a => a = p) NN NN → mI M1 523 p = (L.length : Int) - 1 → (∀ k, k < 30 → mI M1 522 (30 * p + k) = if idx o q L ≤ k ∧ k < i then mI M 522 (30 * p + (k + 1)) else mI M 522 (30 * p + k)) → G X y_m_adds (mZ M, mS M, 0, 0) 61 [some (aR (some 521)), some (aI p), some (aI q), some (aI n), some (aI (idx o q L)), some (aI is), some (aI now), some (aI i)] [] M1 (AK M p (L.eraseIdx (idx o q L))) := by
    intro d
    induction d with
    | zero =>
      intro i M1 is now hi hki hF hz hv
      have hs1 := hF.shp hs
      refine G_w (pfb_ok X) LK_128 (fun i => i == 61) 40 _ _ _ _ ?_
      simp only [f_0, f_s, f_iconst, f_bipush, f_sipush, f_ldc, f_ldc_w, f_ldc2_w, f_ldI, f_ldL, f_ldA, f_iload, f_iload_n, f_lload, f_lload_n, f_aload, f_aload_n, f_istore, f_istore_n, f_lstore, f_lstore_n, f_astore, f_astore_n, f_iinc, f_icI, f_iadd, f_isub, f_imul, f_idiv, f_irem, f_iand, f_ior, f_ixor, f_ishl, f_ishr, f_iushr, f_i2l, f_i2b, f_i2s, f_ladd, f_lmul, f_lcmp, f_dupI, f_dupR, f_dup2, f_pop, f_goto, f_if, f_icmp, f_tab, f_ts0, f_ts1, f_getI, f_getZ, f_getR, f_putI, f_putR, f_gets, f_iald, f_bald, f_aald, f_iast, f_bast, f_aast, f_alen, f_new, f_newa, f_anew, f_virt, f_stat0, f_stat1, f_spec0, f_spec1, f_spec9, f_copy, f_max, f_min, f_cV1, f_cV0, f_cS1, f_cS0, f_iret, f_lret, f_vret, f_kG, pf0, cIg, inR, lget, lset, lset2, clr, entL, cnd, psh, catS, tsw, List.take_succ_cons, List.take_zero, List.drop_succ_cons, List.drop_zero, List.reverse_cons, List.reverse_nil, List.nil_append, List.cons_append, List.length_cons, List.length_nil, List.replicate_succ, List.replicate_zero, Nat.reduceAdd, Nat.reduceSub, Nat.reduceLeDiff, Nat.reduceLT, Nat.reduceEqDiff, Nat.reduceMul, Nat.zero_add, Nat.add_zero, Nat.le_refl, Nat.zero_le, Int.reduceEq, Int.reduceToNat, Int.toNat_natCast, Int.reduceNeg, Int.reduceAdd, Int.reduceSub, Int.reduceMul, Int.reduceLT, Int.reduceLE, Int.reduceDiv, Int.reduceMod, Bool.false_eq_true, ↓reduceIte, true_and, and_true, implies_true, forall_const, true_or, or_true, or_false, false_or, not_true_eq_false, not_false_eq_true, false_implies, Prod.mk.injEq, Fin.val_zero, Fin.val_one, Fin.isValue, Fin.reduceFinMk, Fin.val_two, mR_uI, mK_uI, mN_uI, mI_uR, mK_uR, mN_uR, mR_uC, mK_uC, mN_uC, Option.some.injEq, Sum.inl.injEq, Sum.inr.injEq, decide_true, decide_false, Bool.or_false, Bool.false_or, Bool.or_true, Bool.true_or, Nat.reduceBEq, beq_self_eq_true, show tb 128 = tb_128 from rfl, tb_128, tb_128_0, tb_128_1, tb_128_2, tb_128_3, tb_128_4, pfb, pfb_b, pfb_c, pfb_v, pfa_b, pfa_c, pfa_v, hs1.mr1, hs1.mr2, hs1.mr3, hs1.mr4, hs1.mr5, hs1.mr14, hs1.mr15, hs1.mr16, hs1.mr18, hs1.mr19, hs1.mr20, hs1.mr21, hs1.mr22, hs1.mr23, hs1.mk521, hs1.mk522, hs1.mn522, hs1.mk523, hs1.mn523, hs1.mk524, hs1.mn524, hs1.mk525, hs1.mn525, hs1.mk526, hs1.mn526, hs1.mk527, hs1.mn527, hs1.mk528, hs1.mn528, hs1.mk529, hs1.mn529, hs1.mk530, hs1.mn530, hs1.mk531, hs1.mn531, hs1.mk532, hs1.mn532, hs1.mk533, hs1.mn533, hs1.mk534, hs1.mn534, hs1.mk535, hs1.mn535, hz]
      have hlen : (L.eraseIdx (idx o q L)).length = L.length - 1 := by rw [List.length_eraseIdx, if_pos (by omega)]
      have hfin : AK M p (L.eraseIdx (idx o q L)) none M1 := by
        refine ⟨rfl, ⟨by rw [hz, hlen]; omega, by omega, fun k t ht => ?_⟩, hF⟩
        have hk := (List.getElem?_eq_some_iff.mp ht).1
        rw [hlen] at hk
        rw [hv k (by omega)]
        rw [List.getElem?_eraseIdx] at ht
        by_cases h9 : k < idx o q L
        · rw [if_pos h9] at ht
          rw [if_neg (by omega)]
          exact l3 k t ht
        · rw [if_neg h9] at ht
          rw [if_pos (by omega)]
          exact l3 (k + 1) t ht
      (repeat' (first | with_reducible apply And.intro | with_reducible intro _)) <;> (try omega)
      all_goals exact hfin
    | succ d ih =>
      intro i M1 is now hi hki hF hz hv
      have hs1 := hF.shp hs
      have e1 : ((30 : Int) * (p : Int) + (i : Int)).toNat = 30 * p + i := by omega
      have e2 : ((30 : Int) * (p : Int) + (i : Int) + 1).toNat = 30 * p + (i + 1) := by omega
      have v1 := hv (i + 1) (by omega)
      rw [if_neg (by omega)] at v1
      have hnext := ih (i + 1) (uI M1 522 (30 * p + i) (mI M 522 (30 * p + (i + 1)))) is now (by omega) (by omega) (hF.ut (j := i) rfl (by omega)) ((mI_uI_ne (by omega)).trans hz) (fun k hk => by
        rw [mI_uI]
        by_cases hik : k = i
        · subst hik
          rw [if_pos ⟨rfl, rfl⟩, if_pos (by omega)]
        · rw [if_neg (fun h9 => hik (by omega)), hv k hk]
          by_cases h8 : idx o q L ≤ k ∧ k < i
          · rw [if_pos h8, if_pos (by omega)]
          · rw [if_neg h8, if_neg (by omega)])
      refine G_w (pfb_ok X) LK_128 (fun i => i == 61) 40 _ _ _ _ ?_
      simp only [f_0, f_s, f_iconst, f_bipush, f_sipush, f_ldc, f_ldc_w, f_ldc2_w, f_ldI, f_ldL, f_ldA, f_iload, f_iload_n, f_lload, f_lload_n, f_aload, f_aload_n, f_istore, f_istore_n, f_lstore, f_lstore_n, f_astore, f_astore_n, f_iinc, f_icI, f_iadd, f_isub, f_imul, f_idiv, f_irem, f_iand, f_ior, f_ixor, f_ishl, f_ishr, f_iushr, f_i2l, f_i2b, f_i2s, f_ladd, f_lmul, f_lcmp, f_dupI, f_dupR, f_dup2, f_pop, f_goto, f_if, f_icmp, f_tab, f_ts0, f_ts1, f_getI, f_getZ, f_getR, f_putI, f_putR, f_gets, f_iald, f_bald, f_aald, f_iast, f_bast, f_aast, f_alen, f_new, f_newa, f_anew, f_virt, f_stat0, f_stat1, f_spec0, f_spec1, f_spec9, f_copy, f_max, f_min, f_cV1, f_cV0, f_cS1, f_cS0, f_iret, f_lret, f_vret, f_kG, pf0, cIg, inR, lget, lset, lset2, clr, entL, cnd, psh, catS, tsw, List.take_succ_cons, List.take_zero, List.drop_succ_cons, List.drop_zero, List.reverse_cons, List.reverse_nil, List.nil_append, List.cons_append, List.length_cons, List.length_nil, List.replicate_succ, List.replicate_zero, Nat.reduceAdd, Nat.reduceSub, Nat.reduceLeDiff, Nat.reduceLT, Nat.reduceEqDiff, Nat.reduceMul, Nat.zero_add, Nat.add_zero, Nat.le_refl, Nat.zero_le, Int.reduceEq, Int.reduceToNat, Int.toNat_natCast, Int.reduceNeg, Int.reduceAdd, Int.reduceSub, Int.reduceMul, Int.reduceLT, Int.reduceLE, Int.reduceDiv, Int.reduceMod, Bool.false_eq_true, ↓reduceIte, true_and, and_true, implies_true, forall_const, true_or, or_true, or_false, false_or, not_true_eq_false, not_false_eq_true, false_implies, Prod.mk.injEq, Fin.val_zero, Fin.val_one, Fin.isValue, Fin.reduceFinMk, Fin.val_two, mR_uI, mK_uI, mN_uI, mI_uR, mK_uR, mN_uR, mR_uC, mK_uC, mN_uC, Option.some.injEq, Sum.inl.injEq, Sum.inr.injEq, decide_true, decide_false, Bool.or_false, Bool.false_or, Bool.or_true, Bool.true_or, Nat.reduceBEq, beq_self_eq_true, show tb 128 = tb_128 from rfl, tb_128, tb_128_0, tb_128_1, tb_128_2, tb_128_3, tb_128_4, pfb, pfb_b, pfb_c, pfb_v, pfa_b, pfa_c, pfa_v, hs1.mr1, hs1.mr2, hs1.mr3, hs1.mr4, hs1.mr5, hs1.mr14, hs1.mr15, hs1.mr16, hs1.mr18, hs1.mr19, hs1.mr20, hs1.mr21, hs1.mr22, hs1.mr23, hs1.mk521, hs1.mk522, hs1.mn522, hs1.mk523, hs1.mn523, hs1.mk524, hs1.mn524, hs1.mk525, hs1.mn525, hs1.mk526, hs1.mn526, hs1.mk527, hs1.mn527, hs1.mk528, hs1.mn528, hs1.mk529, hs1.mn529, hs1.mk530, hs1.mn530, hs1.mk531, hs1.mn531, hs1.mk532, hs1.mn532, hs1.mk533, hs1.mn533, hs1.mk534, hs1.mn534, hs1.mk535, hs1.mn535, hz, e1, e2, v1]
      (repeat' (first | with_reducible apply And.intro | with_reducible intro _)) <;> (try omega)
      all_goals exact hnext
  -- the terms behind go one back
  have up : ∀ (d i : Nat) (M1 : Mem), i = idx o q L + d → i ≤ L.length → Fr M M1 (fun a => a = p) NN NN → mI M1 523 p = L.length → (∀ k, k < 30 → mI M1 522 (30 * p + k) = if i < k ∧ k ≤ L.length then mI M 522 (30 * p + (k - 1)) else mI M 522 (30 * p + k)) → G X y_m_adds (mZ M, mS M, 0, 0) 93 [some (aR (some 521)), some (aI p), some (aI q), some (aI n), some (aI (idx o q L)), some (aI 0), some (aI n), some (aI i)] [] M1 (AK M p (L.insertIdx (idx o q L) (n, q))) := by
    intro d
    induction d with
    | zero =>
      intro i M1 hi hil hF hz hv
      have hs1 := hF.shp hs
      have hi0 : i = idx o q L := by omega
      subst hi0
      have e1 : ((30 : Int) * (p : Int) + (idx o q L : Int)).toNat = 30 * p + idx o q L := by omega
      refine G_w (pfb_ok X) LK_128 (fun i => false) 60 _ _ _ _ ?_
      simp only [f_0, f_s, f_iconst, f_bipush, f_sipush, f_ldc, f_ldc_w, f_ldc2_w, f_ldI, f_ldL, f_ldA, f_iload, f_iload_n, f_lload, f_lload_n, f_aload, f_aload_n, f_istore, f_istore_n, f_lstore, f_lstore_n, f_astore, f_astore_n, f_iinc, f_icI, f_iadd, f_isub, f_imul, f_idiv, f_irem, f_iand, f_ior, f_ixor, f_ishl, f_ishr, f_iushr, f_i2l, f_i2b, f_i2s, f_ladd, f_lmul, f_lcmp, f_dupI, f_dupR, f_dup2, f_pop, f_goto, f_if, f_icmp, f_tab, f_ts0, f_ts1, f_getI, f_getZ, f_getR, f_putI, f_putR, f_gets, f_iald, f_bald, f_aald, f_iast, f_bast, f_aast, f_alen, f_new, f_newa, f_anew, f_virt, f_stat0, f_stat1, f_spec0, f_spec1, f_spec9, f_copy, f_max, f_min, f_cV1, f_cV0, f_cS1, f_cS0, f_iret, f_lret, f_vret, f_kG, pf0, cIg, inR, lget, lset, lset2, clr, entL, cnd, psh, catS, tsw, List.take_succ_cons, List.take_zero, List.drop_succ_cons, List.drop_zero, List.reverse_cons, List.reverse_nil, List.nil_append, List.cons_append, List.length_cons, List.length_nil, List.replicate_succ, List.replicate_zero, Nat.reduceAdd, Nat.reduceSub, Nat.reduceLeDiff, Nat.reduceLT, Nat.reduceEqDiff, Nat.reduceMul, Nat.zero_add, Nat.add_zero, Nat.le_refl, Nat.zero_le, Int.reduceEq, Int.reduceToNat, Int.toNat_natCast, Int.reduceNeg, Int.reduceAdd, Int.reduceSub, Int.reduceMul, Int.reduceLT, Int.reduceLE, Int.reduceDiv, Int.reduceMod, Bool.false_eq_true, ↓reduceIte, true_and, and_true, implies_true, forall_const, true_or, or_true, or_false, false_or, not_true_eq_false, not_false_eq_true, false_implies, Prod.mk.injEq, Fin.val_zero, Fin.val_one, Fin.isValue, Fin.reduceFinMk, Fin.val_two, mR_uI, mK_uI, mN_uI, mI_uR, mK_uR, mN_uR, mR_uC, mK_uC, mN_uC, Option.some.injEq, Sum.inl.injEq, Sum.inr.injEq, decide_true, decide_false, Bool.or_false, Bool.false_or, Bool.or_true, Bool.true_or, Nat.reduceBEq, beq_self_eq_true, show tb 128 = tb_128 from rfl, tb_128, tb_128_0, tb_128_1, tb_128_2, tb_128_3, tb_128_4, pfb, pfb_b, pfb_c, pfb_v, pfa_b, pfa_c, pfa_v, hs1.mr1, hs1.mr2, hs1.mr3, hs1.mr4, hs1.mr5, hs1.mr14, hs1.mr15, hs1.mr16, hs1.mr18, hs1.mr19, hs1.mr20, hs1.mr21, hs1.mr22, hs1.mr23, hs1.mk521, hs1.mk522, hs1.mn522, hs1.mk523, hs1.mn523, hs1.mk524, hs1.mn524, hs1.mk525, hs1.mn525, hs1.mk526, hs1.mn526, hs1.mk527, hs1.mn527, hs1.mk528, hs1.mn528, hs1.mk529, hs1.mn529, hs1.mk530, hs1.mn530, hs1.mk531, hs1.mn531, hs1.mk532, hs1.mn532, hs1.mk533, hs1.mn533, hs1.mk534, hs1.mn534, hs1.mk535, hs1.mn535, hz, e1]
      have hlen : (L.insertIdx (idx o q L) (n, q)).length = L.length + 1 := by rw [List.length_insertIdx, if_pos (by omega)]
      have hfin : AK M p (L.insertIdx (idx o q L) (n, q)) none (uI (uI M1 523 p (L.length + 1)) 522 (30 * p + idx o q L) (32 * q + n)) := by
        refine ⟨rfl, ⟨by rw [mI_uI_ne (by omega), mI_uI_eq, hlen]; omega, by omega, fun k t ht => ?_⟩, (hF.us rfl).ut (j := idx o q L) rfl (by omega)⟩
        have hk := (List.getElem?_eq_some_iff.mp ht).1
        rw [hlen] at hk
        rw [List.getElem?_insertIdx] at ht
        rw [mI_uI]
        by_cases h9 : k < idx o q L
        · rw [if_pos h9] at ht
          rw [if_neg (fun h8 => by omega), mI_uI_ne (by omega), hv k (by omega), if_neg (by omega)]
          exact l3 k t ht
        · rw [if_neg h9] at ht
          by_cases h8 : k = idx o q L
          · rw [if_pos h8, if_pos (by omega)] at ht
            cases ht
            rw [if_pos ⟨rfl, by omega⟩]
          · rw [if_neg h8] at ht
            rw [if_neg (fun h7 => by omega), mI_uI_ne (by omega), hv k (by omega), if_pos (by omega)]
            exact l3 (k - 1) t ht
      (repeat' (first | with_reducible apply And.intro | with_reducible intro _)) <;> (try omega)
      all_goals exact hfin
    | succ d ih =>
      intro i M1 hi hil hF hz hv
      have hs1 := hF.shp hs
      have e1 : ((30 : Int) * (p : Int) + (i : Int)).toNat = 30 * p + i := by omega
      have e2 : ((30 : Int) * (p : Int) + (i : Int) - 1).toNat = 30 * p + (i - 1) := by omega
      have e3 : ((i : Int) + -1) = ((i - 1 : Nat) : Int) := by omega
      have v1 := hv (i - 1) (by omega)
      rw [if_neg (by omega)] at v1
      have hnext := ih (i - 1) (uI M1 522 (30 * p + i) (mI M 522 (30 * p + (i - 1)))) (by omega) (by omega) (hF.ut (j := i) rfl (by omega)) ((mI_uI_ne (by omega)).trans hz) (fun k hk => by
        rw [mI_uI]
        by_cases hik : k = i
        · subst hik
          rw [if_pos ⟨rfl, rfl⟩, if_pos (by omega)]
        · rw [if_neg (fun h9 => hik (by omega)), hv k hk]
          by_cases h8 : i < k ∧ k ≤ L.length
          · rw [if_pos h8, if_pos (by omega)]
          · rw [if_neg h8, if_neg (by omega)])
      refine G_w (pfb_ok X) LK_128 (fun i => i == 93) 60 _ _ _ _ ?_
      simp only [f_0, f_s, f_iconst, f_bipush, f_sipush, f_ldc, f_ldc_w, f_ldc2_w, f_ldI, f_ldL, f_ldA, f_iload, f_iload_n, f_lload, f_lload_n, f_aload, f_aload_n, f_istore, f_istore_n, f_lstore, f_lstore_n, f_astore, f_astore_n, f_iinc, f_icI, f_iadd, f_isub, f_imul, f_idiv, f_irem, f_iand, f_ior, f_ixor, f_ishl, f_ishr, f_iushr, f_i2l, f_i2b, f_i2s, f_ladd, f_lmul, f_lcmp, f_dupI, f_dupR, f_dup2, f_pop, f_goto, f_if, f_icmp, f_tab, f_ts0, f_ts1, f_getI, f_getZ, f_getR, f_putI, f_putR, f_gets, f_iald, f_bald, f_aald, f_iast, f_bast, f_aast, f_alen, f_new, f_newa, f_anew, f_virt, f_stat0, f_stat1, f_spec0, f_spec1, f_spec9, f_copy, f_max, f_min, f_cV1, f_cV0, f_cS1, f_cS0, f_iret, f_lret, f_vret, f_kG, pf0, cIg, inR, lget, lset, lset2, clr, entL, cnd, psh, catS, tsw, List.take_succ_cons, List.take_zero, List.drop_succ_cons, List.drop_zero, List.reverse_cons, List.reverse_nil, List.nil_append, List.cons_append, List.length_cons, List.length_nil, List.replicate_succ, List.replicate_zero, Nat.reduceAdd, Nat.reduceSub, Nat.reduceLeDiff, Nat.reduceLT, Nat.reduceEqDiff, Nat.reduceMul, Nat.zero_add, Nat.add_zero, Nat.le_refl, Nat.zero_le, Int.reduceEq, Int.reduceToNat, Int.toNat_natCast, Int.reduceNeg, Int.reduceAdd, Int.reduceSub, Int.reduceMul, Int.reduceLT, Int.reduceLE, Int.reduceDiv, Int.reduceMod, Bool.false_eq_true, ↓reduceIte, true_and, and_true, implies_true, forall_const, true_or, or_true, or_false, false_or, not_true_eq_false, not_false_eq_true, false_implies, Prod.mk.injEq, Fin.val_zero, Fin.val_one, Fin.isValue, Fin.reduceFinMk, Fin.val_two, mR_uI, mK_uI, mN_uI, mI_uR, mK_uR, mN_uR, mR_uC, mK_uC, mN_uC, Option.some.injEq, Sum.inl.injEq, Sum.inr.injEq, decide_true, decide_false, Bool.or_false, Bool.false_or, Bool.or_true, Bool.true_or, Nat.reduceBEq, beq_self_eq_true, show tb 128 = tb_128 from rfl, tb_128, tb_128_0, tb_128_1, tb_128_2, tb_128_3, tb_128_4, pfb, pfb_b, pfb_c, pfb_v, pfa_b, pfa_c, pfa_v, hs1.mr1, hs1.mr2, hs1.mr3, hs1.mr4, hs1.mr5, hs1.mr14, hs1.mr15, hs1.mr16, hs1.mr18, hs1.mr19, hs1.mr20, hs1.mr21, hs1.mr22, hs1.mr23, hs1.mk521, hs1.mk522, hs1.mn522, hs1.mk523, hs1.mn523, hs1.mk524, hs1.mn524, hs1.mk525, hs1.mn525, hs1.mk526, hs1.mn526, hs1.mk527, hs1.mn527, hs1.mk528, hs1.mn528, hs1.mk529, hs1.mn529, hs1.mk530, hs1.mn530, hs1.mk531, hs1.mn531, hs1.mk532, hs1.mn532, hs1.mk533, hs1.mn533, hs1.mk534, hs1.mn534, hs1.mk535, hs1.mn535, hz, e1, e2, e3, v1]
      (repeat' (first | with_reducible apply And.intro | with_reducible intro _)) <;> (try omega)
      all_goals exact hnext
  have found : G X y_m_adds (mZ M, mS M, 0, 0) 18 [some (aR (some 521)), some (aI p), some (aI q), some (aI n), some (aI (idx o q L)), none, none, none] [] M (AK M p (addT o n q L)) := by
    by_cases hlt : idx o q L < L.length
    · obtain ⟨t, ht⟩ : ∃ t, L[idx o q L]? = some t := ⟨_, List.getElem?_eq_getElem hlt⟩
      obtain ⟨c1, c2, c3⟩ := tm_ok hL0 ok ht
      have okt := (ok t (List.mem_of_getElem? ht)).1
      have hlt9 : ¬ (L.length : Int) ≤ (idx o q L : Int) := by omega
      by_cases he : t.2 = q
      · by_cases hz : (t.1 + n) % 31 = 0
        · have hadd : addT o n q L = L.eraseIdx (idx o q L) := by unfold addT; rw [ht]; simp only [if_pos he, if_pos hz]
          rw [hadd]
          refine G_w (pfb_ok X) LK_128 (fun i => i == 61) 60 _ _ _ _ ?_
          simp only [f_0, f_s, f_iconst, f_bipush, f_sipush, f_ldc, f_ldc_w, f_ldc2_w, f_ldI, f_ldL, f_ldA, f_iload, f_iload_n, f_lload, f_lload_n, f_aload, f_aload_n, f_istore, f_istore_n, f_lstore, f_lstore_n, f_astore, f_astore_n, f_iinc, f_icI, f_iadd, f_isub, f_imul, f_idiv, f_irem, f_iand, f_ior, f_ixor, f_ishl, f_ishr, f_iushr, f_i2l, f_i2b, f_i2s, f_ladd, f_lmul, f_lcmp, f_dupI, f_dupR, f_dup2, f_pop, f_goto, f_if, f_icmp, f_tab, f_ts0, f_ts1, f_getI, f_getZ, f_getR, f_putI, f_putR, f_gets, f_iald, f_bald, f_aald, f_iast, f_bast, f_aast, f_alen, f_new, f_newa, f_anew, f_virt, f_stat0, f_stat1, f_spec0, f_spec1, f_spec9, f_copy, f_max, f_min, f_cV1, f_cV0, f_cS1, f_cS0, f_iret, f_lret, f_vret, f_kG, pf0, cIg, inR, lget, lset, lset2, clr, entL, cnd, psh, catS, tsw, List.take_succ_cons, List.take_zero, List.drop_succ_cons, List.drop_zero, List.reverse_cons, List.reverse_nil, List.nil_append, List.cons_append, List.length_cons, List.length_nil, List.replicate_succ, List.replicate_zero, Nat.reduceAdd, Nat.reduceSub, Nat.reduceLeDiff, Nat.reduceLT, Nat.reduceEqDiff, Nat.reduceMul, Nat.zero_add, Nat.add_zero, Nat.le_refl, Nat.zero_le, Int.reduceEq, Int.reduceToNat, Int.toNat_natCast, Int.reduceNeg, Int.reduceAdd, Int.reduceSub, Int.reduceMul, Int.reduceLT, Int.reduceLE, Int.reduceDiv, Int.reduceMod, Bool.false_eq_true, ↓reduceIte, true_and, and_true, implies_true, forall_const, true_or, or_true, or_false, false_or, not_true_eq_false, not_false_eq_true, false_implies, Prod.mk.injEq, Fin.val_zero, Fin.val_one, Fin.isValue, Fin.reduceFinMk, Fin.val_two, mR_uI, mK_uI, mN_uI, mI_uR, mK_uR, mN_uR, mR_uC, mK_uC, mN_uC, Option.some.injEq, Sum.inl.injEq, Sum.inr.injEq, decide_true, decide_false, Bool.or_false, Bool.false_or, Bool.or_true, Bool.true_or, Nat.reduceBEq, beq_self_eq_true, show tb 128 = tb_128 from rfl, tb_128, tb_128_0, tb_128_1, tb_128_2, tb_128_3, tb_128_4, pfb, pfb_b, pfb_c, pfb_v, pfa_b, pfa_c, pfa_v, hs.mr1, hs.mr2, hs.mr3, hs.mr4, hs.mr5, hs.mr14, hs.mr15, hs.mr16, hs.mr18, hs.mr19, hs.mr20, hs.mr21, hs.mr22, hs.mr23, hs.mk521, hs.mk522, hs.mn522, hs.mk523, hs.mn523, hs.mk524, hs.mn524, hs.mk525, hs.mn525, hs.mk526, hs.mn526, hs.mk527, hs.mn527, hs.mk528, hs.mn528, hs.mk529, hs.mn529, hs.mk530, hs.mn530, hs.mk531, hs.mn531, hs.mk532, hs.mn532, hs.mk533, hs.mn533, hs.mk534, hs.mn534, hs.mk535, hs.mn535, hs, l1, hlt9, c1, c2, c3, he, hz]
          have hnext := down (L.length - 1 - idx o q L) (idx o q L) (uI M 523 p (L.length - 1)) 1 0 (by omega) (Nat.le_refl _) ((Fr.rf M _ _ _).us rfl) mI_uI_eq (fun k hk => by rw [if_neg (by omega), mI_uI_ne (by omega)])
          (repeat' (first | with_reducible apply And.intro | with_reducible intro _)) <;> (try omega)
          all_goals exact hnext
        · have hadd : addT o n q L = L.set (idx o q L) ((t.1 + n) % 31, q) := by unfold addT; rw [ht]; simp only [if_pos he, if_neg hz]
          rw [hadd]
          have e1 : ((30 : Int) * (p : Int) + (idx o q L : Int)).toNat = 30 * p + idx o q L := by omega
          refine G_w (pfb_ok X) LK_128 (fun i => false) 80 _ _ _ _ ?_
          simp only [f_0, f_s, f_iconst, f_bipush, f_sipush, f_ldc, f_ldc_w, f_ldc2_w, f_ldI, f_ldL, f_ldA, f_iload, f_iload_n, f_lload, f_lload_n, f_aload, f_aload_n, f_istore, f_istore_n, f_lstore, f_lstore_n, f_astore, f_astore_n, f_iinc, f_icI, f_iadd, f_isub, f_imul, f_idiv, f_irem, f_iand, f_ior, f_ixor, f_ishl, f_ishr, f_iushr, f_i2l, f_i2b, f_i2s, f_ladd, f_lmul, f_lcmp, f_dupI, f_dupR, f_dup2, f_pop, f_goto, f_if, f_icmp, f_tab, f_ts0, f_ts1, f_getI, f_getZ, f_getR, f_putI, f_putR, f_gets, f_iald, f_bald, f_aald, f_iast, f_bast, f_aast, f_alen, f_new, f_newa, f_anew, f_virt, f_stat0, f_stat1, f_spec0, f_spec1, f_spec9, f_copy, f_max, f_min, f_cV1, f_cV0, f_cS1, f_cS0, f_iret, f_lret, f_vret, f_kG, pf0, cIg, inR, lget, lset, lset2, clr, entL, cnd, psh, catS, tsw, List.take_succ_cons, List.take_zero, List.drop_succ_cons, List.drop_zero, List.reverse_cons, List.reverse_nil, List.nil_append, List.cons_append, List.length_cons, List.length_nil, List.replicate_succ, List.replicate_zero, Nat.reduceAdd, Nat.reduceSub, Nat.reduceLeDiff, Nat.reduceLT, Nat.reduceEqDiff, Nat.reduceMul, Nat.zero_add, Nat.add_zero, Nat.le_refl, Nat.zero_le, Int.reduceEq, Int.reduceToNat, Int.toNat_natCast, Int.reduceNeg, Int.reduceAdd, Int.reduceSub, Int.reduceMul, Int.reduceLT, Int.reduceLE, Int.reduceDiv, Int.reduceMod, Bool.false_eq_true, ↓reduceIte, true_and, and_true, implies_true, forall_const, true_or, or_true, or_false, false_or, not_true_eq_false, not_false_eq_true, false_implies, Prod.mk.injEq, Fin.val_zero, Fin.val_one, Fin.isValue, Fin.reduceFinMk, Fin.val_two, mR_uI, mK_uI, mN_uI, mI_uR, mK_uR, mN_uR, mR_uC, mK_uC, mN_uC, Option.some.injEq, Sum.inl.injEq, Sum.inr.injEq, decide_true, decide_false, Bool.or_false, Bool.false_or, Bool.or_true, Bool.true_or, Nat.reduceBEq, beq_self_eq_true, show tb 128 = tb_128 from rfl, tb_128, tb_128_0, tb_128_1, tb_128_2, tb_128_3, tb_128_4, pfb, pfb_b, pfb_c, pfb_v, pfa_b, pfa_c, pfa_v, hs.mr1, hs.mr2, hs.mr3, hs.mr4, hs.mr5, hs.mr14, hs.mr15, hs.mr16, hs.mr18, hs.mr19, hs.mr20, hs.mr21, hs.mr22, hs.mr23, hs.mk521, hs.mk522, hs.mn522, hs.mk523, hs.mn523, hs.mk524, hs.mn524, hs.mk525, hs.mn525, hs.mk526, hs.mn526, hs.mk527, hs.mn527, hs.mk528, hs.mn528, hs.mk529, hs.mn529, hs.mk530, hs.mn530, hs.mk531, hs.mn531, hs.mk532, hs.mn532, hs.mk533, hs.mn533, hs.mk534, hs.mn534, hs.mk535, hs.mn535, hs, l1, hlt9, c1, c2, c3, he, hz, e1]
          have hfin : AK M p (L.set (idx o q L) ((t.1 + n) % 31, q)) none (uI (uI M 523 p L.length) 522 (30 * p + idx o q L) (32 * q + (t.1 + n) % 31)) := by
            refine ⟨rfl, ⟨by rw [mI_uI_ne (by omega), mI_uI_eq, List.length_set], by rw [List.length_set]; omega, fun k u hu => ?_⟩, ((Fr.rf M (fun a => a = p) NN NN).us rfl).ut (j := idx o q L) rfl (by omega)⟩
            rw [List.getElem?_set] at hu
            rw [mI_uI]
            by_cases h9 : idx o q L = k
            · subst h9
              rw [if_pos rfl, if_pos hlt] at hu
              cases hu
              rw [if_pos ⟨rfl, rfl⟩]
            · rw [if_neg h9] at hu
              rw [if_neg (fun h7 => by omega), mI_uI_ne (by omega)]
              exact l3 k u hu
          have e0 : (L.length : Int) + 0 = L.length := Int.add_zero _
          rw [e0]
          (repeat' (first | with_reducible apply And.intro | with_reducible intro _)) <;> (try omega)
          all_goals exact hfin
      · have hadd : addT o n q L = L.insertIdx (idx o q L) (n, q) := by unfold addT; rw [ht]; simp only [if_neg he]
        rw [hadd]
        refine G_w (pfb_ok X) LK_128 (fun i => i == 93) 60 _ _ _ _ ?_
        simp only [f_0, f_s, f_iconst, f_bipush, f_sipush, f_ldc, f_ldc_w, f_ldc2_w, f_ldI, f_ldL, f_ldA, f_iload, f_iload_n, f_lload, f_lload_n, f_aload, f_aload_n, f_istore, f_istore_n, f_lstore, f_lstore_n, f_astore, f_astore_n, f_iinc, f_icI, f_iadd, f_isub, f_imul, f_idiv, f_irem, f_iand, f_ior, f_ixor, f_ishl, f_ishr, f_iushr, f_i2l, f_i2b, f_i2s, f_ladd, f_lmul, f_lcmp, f_dupI, f_dupR, f_dup2, f_pop, f_goto, f_if, f_icmp, f_tab, f_ts0, f_ts1, f_getI, f_getZ, f_getR, f_putI, f_putR, f_gets, f_iald, f_bald, f_aald, f_iast, f_bast, f_aast, f_alen, f_new, f_newa, f_anew, f_virt, f_stat0, f_stat1, f_spec0, f_spec1, f_spec9, f_copy, f_max, f_min, f_cV1, f_cV0, f_cS1, f_cS0, f_iret, f_lret, f_vret, f_kG, pf0, cIg, inR, lget, lset, lset2, clr, entL, cnd, psh, catS, tsw, List.take_succ_cons, List.take_zero, List.drop_succ_cons, List.drop_zero, List.reverse_cons, List.reverse_nil, List.nil_append, List.cons_append, List.length_cons, List.length_nil, List.replicate_succ, List.replicate_zero, Nat.reduceAdd, Nat.reduceSub, Nat.reduceLeDiff, Nat.reduceLT, Nat.reduceEqDiff, Nat.reduceMul, Nat.zero_add, Nat.add_zero, Nat.le_refl, Nat.zero_le, Int.reduceEq, Int.reduceToNat, Int.toNat_natCast, Int.reduceNeg, Int.reduceAdd, Int.reduceSub, Int.reduceMul, Int.reduceLT, Int.reduceLE, Int.reduceDiv, Int.reduceMod, Bool.false_eq_true, ↓reduceIte, true_and, and_true, implies_true, forall_const, true_or, or_true, or_false, false_or, not_true_eq_false, not_false_eq_true, false_implies, Prod.mk.injEq, Fin.val_zero, Fin.val_one, Fin.isValue, Fin.reduceFinMk, Fin.val_two, mR_uI, mK_uI, mN_uI, mI_uR, mK_uR, mN_uR, mR_uC, mK_uC, mN_uC, Option.some.injEq, Sum.inl.injEq, Sum.inr.injEq, decide_true, decide_false, Bool.or_false, Bool.false_or, Bool.or_true, Bool.true_or, Nat.reduceBEq, beq_self_eq_true, show tb 128 = tb_128 from rfl, tb_128, tb_128_0, tb_128_1, tb_128_2, tb_128_3, tb_128_4, pfb, pfb_b, pfb_c, pfb_v, pfa_b, pfa_c, pfa_v, hs.mr1, hs.mr2, hs.mr3, hs.mr4, hs.mr5, hs.mr14, hs.mr15, hs.mr16, hs.mr18, hs.mr19, hs.mr20, hs.mr21, hs.mr22, hs.mr23, hs.mk521, hs.mk522, hs.mn522, hs.mk523, hs.mn523, hs.mk524, hs.mn524, hs.mk525, hs.mn525, hs.mk526, hs.mn526, hs.mk527, hs.mn527, hs.mk528, hs.mn528, hs.mk529, hs.mn529, hs.mk530, hs.mn530, hs.mk531, hs.mn531, hs.mk532, hs.mn532, hs.mk533, hs.mn533, hs.mk534, hs.mn534, hs.mk535, hs.mn535, hs, l1, hlt9, c1, c2, c3, he]
        have hnext := up (L.length - idx o q L) L.length M (by omega) (Nat.le_refl _) (Fr.rf M _ _ _) l1 (fun k hk => by rw [if_neg (by omega)])
        (repeat' (first | with_reducible apply And.intro | with_reducible intro _)) <;> (try omega)
        all_goals exact hnext
    · have hnone : L[idx o q L]? = none := List.getElem?_eq_none (by omega)
      have hadd : addT o n q L = L.insertIdx (idx o q L) (n, q) := by unfold addT; rw [hnone]
      rw [hadd]
      have hge : (L.length : Int) ≤ (idx o q L : Int) := by omega
      refine G_w (pfb_ok X) LK_128 (fun i => i == 93) 60 _ _ _ _ ?_
      simp only [f_0, f_s, f_iconst, f_bipush, f_sipush, f_ldc, f_ldc_w, f_ldc2_w, f_ldI, f_ldL, f_ldA, f_iload, f_iload_n, f_lload, f_lload_n, f_aload, f_aload_n, f_istore, f_istore_n, f_lstore, f_lstore_n, f_astore, f_astore_n, f_iinc, f_icI, f_iadd, f_isub, f_imul, f_idiv, f_irem, f_iand, f_ior, f_ixor, f_ishl, f_ishr, f_iushr, f_i2l, f_i2b, f_i2s, f_ladd, f_lmul, f_lcmp, f_dupI, f_dupR, f_dup2, f_pop, f_goto, f_if, f_icmp, f_tab, f_ts0, f_ts1, f_getI, f_getZ, f_getR, f_putI, f_putR, f_gets, f_iald, f_bald, f_aald, f_iast, f_bast, f_aast, f_alen, f_new, f_newa, f_anew, f_virt, f_stat0, f_stat1, f_spec0, f_spec1, f_spec9, f_copy, f_max, f_min, f_cV1, f_cV0, f_cS1, f_cS0, f_iret, f_lret, f_vret, f_kG, pf0, cIg, inR, lget, lset, lset2, clr, entL, cnd, psh, catS, tsw, List.take_succ_cons, List.take_zero, List.drop_succ_cons, List.drop_zero, List.reverse_cons, List.reverse_nil, List.nil_append, List.cons_append, List.length_cons, List.length_nil, List.replicate_succ, List.replicate_zero, Nat.reduceAdd, Nat.reduceSub, Nat.reduceLeDiff, Nat.reduceLT, Nat.reduceEqDiff, Nat.reduceMul, Nat.zero_add, Nat.add_zero, Nat.le_refl, Nat.zero_le, Int.reduceEq, Int.reduceToNat, Int.toNat_natCast, Int.reduceNeg, Int.reduceAdd, Int.reduceSub, Int.reduceMul, Int.reduceLT, Int.reduceLE, Int.reduceDiv, Int.reduceMod, Bool.false_eq_true, ↓reduceIte, true_and, and_true, implies_true, forall_const, true_or, or_true, or_false, false_or, not_true_eq_false, not_false_eq_true, false_implies, Prod.mk.injEq, Fin.val_zero, Fin.val_one, Fin.isValue, Fin.reduceFinMk, Fin.val_two, mR_uI, mK_uI, mN_uI, mI_uR, mK_uR, mN_uR, mR_uC, mK_uC, mN_uC, Option.some.injEq, Sum.inl.injEq, Sum.inr.injEq, decide_true, decide_false, Bool.or_false, Bool.false_or, Bool.or_true, Bool.true_or, Nat.reduceBEq, beq_self_eq_true, show tb 128 = tb_128 from rfl, tb_128, tb_128_0, tb_128_1, tb_128_2, tb_128_3, tb_128_4, pfb, pfb_b, pfb_c, pfb_v, pfa_b, pfa_c, pfa_v, hs.mr1, hs.mr2, hs.mr3, hs.mr4, hs.mr5, hs.mr14, hs.mr15, hs.mr16, hs.mr18, hs.mr19, hs.mr20, hs.mr21, hs.mr22, hs.mr23, hs.mk521, hs.mk522, hs.mn522, hs.mk523, hs.mn523, hs.mk524, hs.mn524, hs.mk525, hs.mn525, hs.mk526, hs.mn526, hs.mk527, hs.mn527, hs.mk528, hs.mn528, hs.mk529, hs.mn529, hs.mk530, hs.mn530, hs.mk531, hs.mn531, hs.mk532, hs.mn532, hs.mk533, hs.mn533, hs.mk534, hs.mn534, hs.mk535, hs.mn535, hs, l1, hge]
      have hnext := up 0 L.length M (by omega) (Nat.le_refl _) (Fr.rf M _ _ _) l1 (fun k hk => by rw [if_neg (by omega)])
      (repeat' (first | with_reducible apply And.intro | with_reducible intro _)) <;> (try omega)
      all_goals exact hnext
  have loop : ∀ (d j : Nat), j + d = idx o q L → G X y_m_adds (mZ M, mS M, 0, 0) 2 [some (aR (some 521)), some (aI p), some (aI q), some (aI n), some (aI j), none, none, none] [] M (AK M p (addT o n q L)) := by
    intro d
    induction d with
    | zero =>
      intro j hj
      have hj2 : j = idx o q L := by omega
      subst hj2
      by_cases hlt : idx o q L < L.length
      · obtain ⟨t, ht⟩ : ∃ t, L[idx o q L]? = some t := ⟨_, List.getElem?_eq_getElem hlt⟩
        obtain ⟨c1, c2, c3⟩ := tm_ok hL0 ok ht
        have hot := (ok t (List.mem_of_getElem? ht)).2
        have hna := idx_at ht
        have hlt9 : ¬ (L.length : Int) ≤ (idx o q L : Int) := by omega
        refine G_w (pfb_ok X) LK_128 (fun i => i == 2 || i == 18) 40 _ _ _ _ ?_
        simp only [f_0, f_s, f_iconst, f_bipush, f_sipush, f_ldc, f_ldc_w, f_ldc2_w, f_ldI, f_ldL, f_ldA, f_iload, f_iload_n, f_lload, f_lload_n, f_aload, f_aload_n, f_istore, f_istore_n, f_lstore, f_lstore_n, f_astore, f_astore_n, f_iinc, f_icI, f_iadd, f_isub, f_imul, f_idiv, f_irem, f_iand, f_ior, f_ixor, f_ishl, f_ishr, f_iushr, f_i2l, f_i2b, f_i2s, f_ladd, f_lmul, f_lcmp, f_dupI, f_dupR, f_dup2, f_pop, f_goto, f_if, f_icmp, f_tab, f_ts0, f_ts1, f_getI, f_getZ, f_getR, f_putI, f_putR, f_gets, f_iald, f_bald, f_aald, f_iast, f_bast, f_aast, f_alen, f_new, f_newa, f_anew, f_virt, f_stat0, f_stat1, f_spec0, f_spec1, f_spec9, f_copy, f_max, f_min, f_cV1, f_cV0, f_cS1, f_cS0, f_iret, f_lret, f_vret, f_kG, pf0, cIg, inR, lget, lset, lset2, clr, entL, cnd, psh, catS, tsw, List.take_succ_cons, List.take_zero, List.drop_succ_cons, List.drop_zero, List.reverse_cons, List.reverse_nil, List.nil_append, List.cons_append, List.length_cons, List.length_nil, List.replicate_succ, List.replicate_zero, Nat.reduceAdd, Nat.reduceSub, Nat.reduceLeDiff, Nat.reduceLT, Nat.reduceEqDiff, Nat.reduceMul, Nat.zero_add, Nat.add_zero, Nat.le_refl, Nat.zero_le, Int.reduceEq, Int.reduceToNat, Int.toNat_natCast, Int.reduceNeg, Int.reduceAdd, Int.reduceSub, Int.reduceMul, Int.reduceLT, Int.reduceLE, Int.reduceDiv, Int.reduceMod, Bool.false_eq_true, ↓reduceIte, true_and, and_true, implies_true, forall_const, true_or, or_true, or_false, false_or, not_true_eq_false, not_false_eq_true, false_implies, Prod.mk.injEq, Fin.val_zero, Fin.val_one, Fin.isValue, Fin.reduceFinMk, Fin.val_two, mR_uI, mK_uI, mN_uI, mI_uR, mK_uR, mN_uR, mR_uC, mK_uC, mN_uC, Option.some.injEq, Sum.inl.injEq, Sum.inr.injEq, decide_true, decide_false, Bool.or_false, Bool.false_or, Bool.or_true, Bool.true_or, Nat.reduceBEq, beq_self_eq_true, show tb 128 = tb_128 from rfl, tb_128, tb_128_0, tb_128_1, tb_128_2, tb_128_3, tb_128_4, pfb, pfb_b, pfb_c, pfb_v, pfa_b, pfa_c, pfa_v, hs.mr1, hs.mr2, hs.mr3, hs.mr4, hs.mr5, hs.mr14, hs.mr15, hs.mr16, hs.mr18, hs.mr19, hs.mr20, hs.mr21, hs.mr22, hs.mr23, hs.mk521, hs.mk522, hs.mn522, hs.mk523, hs.mn523, hs.mk524, hs.mn524, hs.mk525, hs.mn525, hs.mk526, hs.mn526, hs.mk527, hs.mn527, hs.mk528, hs.mn528, hs.mk529, hs.mn529, hs.mk530, hs.mn530, hs.mk531, hs.mn531, hs.mk532, hs.mn532, hs.mk533, hs.mn533, hs.mk534, hs.mn534, hs.mk535, hs.mn535, hs, l1, hlt9, c1, c2]
        refine ⟨by omega, ⟨by omega, by omega⟩, ?_⟩
        refine Ev_mono (e_isAhead X M t.2 q hs hot hq (by rw [ho]; exact ho2)) (fun r M2 hr _ _ => ?_)
        obtain ⟨rfl, hM2⟩ := hr
        rw [ho, if_neg hna]
        subst hM2
        simp only [f_kG, psh, Nat.reduceAdd]
        refine G_w (pfb_ok X) LK_128 (fun i => i == 2 || i == 18) 40 _ _ _ _ ?_
        simp only [f_0, f_s, f_iconst, f_bipush, f_sipush, f_ldc, f_ldc_w, f_ldc2_w, f_ldI, f_ldL, f_ldA, f_iload, f_iload_n, f_lload, f_lload_n, f_aload, f_aload_n, f_istore, f_istore_n, f_lstore, f_lstore_n, f_astore, f_astore_n, f_iinc, f_icI, f_iadd, f_isub, f_imul, f_idiv, f_irem, f_iand, f_ior, f_ixor, f_ishl, f_ishr, f_iushr, f_i2l, f_i2b, f_i2s, f_ladd, f_lmul, f_lcmp, f_dupI, f_dupR, f_dup2, f_pop, f_goto, f_if, f_icmp, f_tab, f_ts0, f_ts1, f_getI, f_getZ, f_getR, f_putI, f_putR, f_gets, f_iald, f_bald, f_aald, f_iast, f_bast, f_aast, f_alen, f_new, f_newa, f_anew, f_virt, f_stat0, f_stat1, f_spec0, f_spec1, f_spec9, f_copy, f_max, f_min, f_cV1, f_cV0, f_cS1, f_cS0, f_iret, f_lret, f_vret, f_kG, pf0, cIg, inR, lget, lset, lset2, clr, entL, cnd, psh, catS, tsw, List.take_succ_cons, List.take_zero, List.drop_succ_cons, List.drop_zero, List.reverse_cons, List.reverse_nil, List.nil_append, List.cons_append, List.length_cons, List.length_nil, List.replicate_succ, List.replicate_zero, Nat.reduceAdd, Nat.reduceSub, Nat.reduceLeDiff, Nat.reduceLT, Nat.reduceEqDiff, Nat.reduceMul, Nat.zero_add, Nat.add_zero, Nat.le_refl, Nat.zero_le, Int.reduceEq, Int.reduceToNat, Int.toNat_natCast, Int.reduceNeg, Int.reduceAdd, Int.reduceSub, Int.reduceMul, Int.reduceLT, Int.reduceLE, Int.reduceDiv, Int.reduceMod, Bool.false_eq_true, ↓reduceIte, true_and, and_true, implies_true, forall_const, true_or, or_true, or_false, false_or, not_true_eq_false, not_false_eq_true, false_implies, Prod.mk.injEq, Fin.val_zero, Fin.val_one, Fin.isValue, Fin.reduceFinMk, Fin.val_two, mR_uI, mK_uI, mN_uI, mI_uR, mK_uR, mN_uR, mR_uC, mK_uC, mN_uC, Option.some.injEq, Sum.inl.injEq, Sum.inr.injEq, decide_true, decide_false, Bool.or_false, Bool.false_or, Bool.or_true, Bool.true_or, Nat.reduceBEq, beq_self_eq_true, show tb 128 = tb_128 from rfl, tb_128, tb_128_0, tb_128_1, tb_128_2, tb_128_3, tb_128_4, pfb, pfb_b, pfb_c, pfb_v, pfa_b, pfa_c, pfa_v]
        exact found
      · have hge : (L.length : Int) ≤ (idx o q L : Int) := by omega
        refine G_w (pfb_ok X) LK_128 (fun i => i == 2 || i == 18) 40 _ _ _ _ ?_
        simp only [f_0, f_s, f_iconst, f_bipush, f_sipush, f_ldc, f_ldc_w, f_ldc2_w, f_ldI, f_ldL, f_ldA, f_iload, f_iload_n, f_lload, f_lload_n, f_aload, f_aload_n, f_istore, f_istore_n, f_lstore, f_lstore_n, f_astore, f_astore_n, f_iinc, f_icI, f_iadd, f_isub, f_imul, f_idiv, f_irem, f_iand, f_ior, f_ixor, f_ishl, f_ishr, f_iushr, f_i2l, f_i2b, f_i2s, f_ladd, f_lmul, f_lcmp, f_dupI, f_dupR, f_dup2, f_pop, f_goto, f_if, f_icmp, f_tab, f_ts0, f_ts1, f_getI, f_getZ, f_getR, f_putI, f_putR, f_gets, f_iald, f_bald, f_aald, f_iast, f_bast, f_aast, f_alen, f_new, f_newa, f_anew, f_virt, f_stat0, f_stat1, f_spec0, f_spec1, f_spec9, f_copy, f_max, f_min, f_cV1, f_cV0, f_cS1, f_cS0, f_iret, f_lret, f_vret, f_kG, pf0, cIg, inR, lget, lset, lset2, clr, entL, cnd, psh, catS, tsw, List.take_succ_cons, List.take_zero, List.drop_succ_cons, List.drop_zero, List.reverse_cons, List.reverse_nil, List.nil_append, List.cons_append, List.length_cons, List.length_nil, List.replicate_succ, List.replicate_zero, Nat.reduceAdd, Nat.reduceSub, Nat.reduceLeDiff, Nat.reduceLT, Nat.reduceEqDiff, Nat.reduceMul, Nat.zero_add, Nat.add_zero, Nat.le_refl, Nat.zero_le, Int.reduceEq, Int.reduceToNat, Int.toNat_natCast, Int.reduceNeg, Int.reduceAdd, Int.reduceSub, Int.reduceMul, Int.reduceLT, Int.reduceLE, Int.reduceDiv, Int.reduceMod, Bool.false_eq_true, ↓reduceIte, true_and, and_true, implies_true, forall_const, true_or, or_true, or_false, false_or, not_true_eq_false, not_false_eq_true, false_implies, Prod.mk.injEq, Fin.val_zero, Fin.val_one, Fin.isValue, Fin.reduceFinMk, Fin.val_two, mR_uI, mK_uI, mN_uI, mI_uR, mK_uR, mN_uR, mR_uC, mK_uC, mN_uC, Option.some.injEq, Sum.inl.injEq, Sum.inr.injEq, decide_true, decide_false, Bool.or_false, Bool.false_or, Bool.or_true, Bool.true_or, Nat.reduceBEq, beq_self_eq_true, show tb 128 = tb_128 from rfl, tb_128, tb_128_0, tb_128_1, tb_128_2, tb_128_3, tb_128_4, pfb, pfb_b, pfb_c, pfb_v, pfa_b, pfa_c, pfa_v, hs.mr1, hs.mr2, hs.mr3, hs.mr4, hs.mr5, hs.mr14, hs.mr15, hs.mr16, hs.mr18, hs.mr19, hs.mr20, hs.mr21, hs.mr22, hs.mr23, hs.mk521, hs.mk522, hs.mn522, hs.mk523, hs.mn523, hs.mk524, hs.mn524, hs.mk525, hs.mn525, hs.mk526, hs.mn526, hs.mk527, hs.mn527, hs.mk528, hs.mn528, hs.mk529, hs.mn529, hs.mk530, hs.mn530, hs.mk531, hs.mn531, hs.mk532, hs.mn532, hs.mk533, hs.mn533, hs.mk534, hs.mn534, hs.mk535, hs.mn535, hs, l1, hge]
        exact ⟨by omega, found⟩
    | succ d ih =>
      intro j hj
      obtain ⟨t, ht⟩ : ∃ t, L[j]? = some t := ⟨_, List.getElem?_eq_getElem (by omega)⟩
      obtain ⟨c1, c2, c3⟩ := tm_ok hL0 ok ht
      have hot := (ok t (List.mem_of_getElem? ht)).2
      have hna := idx_lt (o := o) (q := q) (L := L) (j := j) (by omega) ht
      have hlt9 : ¬ (L.length : Int) ≤ (j : Int) := by omega
      refine G_w (pfb_ok X) LK_128 (fun i => i == 2 || i == 18) 40 _ _ _ _ ?_
      simp only [f_0, f_s, f_iconst, f_bipush, f_sipush, f_ldc, f_ldc_w, f_ldc2_w, f_ldI, f_ldL, f_ldA, f_iload, f_iload_n, f_lload, f_lload_n, f_aload, f_aload_n, f_istore, f_istore_n, f_lstore, f_lstore_n, f_astore, f_astore_n, f_iinc, f_icI, f_iadd, f_isub, f_imul, f_idiv, f_irem, f_iand, f_ior, f_ixor, f_ishl, f_ishr, f_iushr, f_i2l, f_i2b, f_i2s, f_ladd, f_lmul, f_lcmp, f_dupI, f_dupR, f_dup2, f_pop, f_goto, f_if, f_icmp, f_tab, f_ts0, f_ts1, f_getI, f_getZ, f_getR, f_putI, f_putR, f_gets, f_iald, f_bald, f_aald, f_iast, f_bast, f_aast, f_alen, f_new, f_newa, f_anew, f_virt, f_stat0, f_stat1, f_spec0, f_spec1, f_spec9, f_copy, f_max, f_min, f_cV1, f_cV0, f_cS1, f_cS0, f_iret, f_lret, f_vret, f_kG, pf0, cIg, inR, lget, lset, lset2, clr, entL, cnd, psh, catS, tsw, List.take_succ_cons, List.take_zero, List.drop_succ_cons, List.drop_zero, List.reverse_cons, List.reverse_nil, List.nil_append, List.cons_append, List.length_cons, List.length_nil, List.replicate_succ, List.replicate_zero, Nat.reduceAdd, Nat.reduceSub, Nat.reduceLeDiff, Nat.reduceLT, Nat.reduceEqDiff, Nat.reduceMul, Nat.zero_add, Nat.add_zero, Nat.le_refl, Nat.zero_le, Int.reduceEq, Int.reduceToNat, Int.toNat_natCast, Int.reduceNeg, Int.reduceAdd, Int.reduceSub, Int.reduceMul, Int.reduceLT, Int.reduceLE, Int.reduceDiv, Int.reduceMod, Bool.false_eq_true, ↓reduceIte, true_and, and_true, implies_true, forall_const, true_or, or_true, or_false, false_or, not_true_eq_false, not_false_eq_true, false_implies, Prod.mk.injEq, Fin.val_zero, Fin.val_one, Fin.isValue, Fin.reduceFinMk, Fin.val_two, mR_uI, mK_uI, mN_uI, mI_uR, mK_uR, mN_uR, mR_uC, mK_uC, mN_uC, Option.some.injEq, Sum.inl.injEq, Sum.inr.injEq, decide_true, decide_false, Bool.or_false, Bool.false_or, Bool.or_true, Bool.true_or, Nat.reduceBEq, beq_self_eq_true, show tb 128 = tb_128 from rfl, tb_128, tb_128_0, tb_128_1, tb_128_2, tb_128_3, tb_128_4, pfb, pfb_b, pfb_c, pfb_v, pfa_b, pfa_c, pfa_v, hs.mr1, hs.mr2, hs.mr3, hs.mr4, hs.mr5, hs.mr14, hs.mr15, hs.mr16, hs.mr18, hs.mr19, hs.mr20, hs.mr21, hs.mr22, hs.mr23, hs.mk521, hs.mk522, hs.mn522, hs.mk523, hs.mn523, hs.mk524, hs.mn524, hs.mk525, hs.mn525, hs.mk526, hs.mn526, hs.mk527, hs.mn527, hs.mk528, hs.mn528, hs.mk529, hs.mn529, hs.mk530, hs.mn530, hs.mk531, hs.mn531, hs.mk532, hs.mn532, hs.mk533, hs.mn533, hs.mk534, hs.mn534, hs.mk535, hs.mn535, hs, l1, hlt9, c1, c2]
      refine ⟨by omega, ⟨by omega, by omega⟩, ?_⟩
      refine Ev_mono (e_isAhead X M t.2 q hs hot hq (by rw [ho]; exact ho2)) (fun r M2 hr _ _ => ?_)
      obtain ⟨rfl, hM2⟩ := hr
      rw [ho, if_pos hna]
      subst hM2
      simp only [f_kG, psh, Nat.reduceAdd]
      refine G_w (pfb_ok X) LK_128 (fun i => i == 2 || i == 18) 40 _ _ _ _ ?_
      simp only [f_0, f_s, f_iconst, f_bipush, f_sipush, f_ldc, f_ldc_w, f_ldc2_w, f_ldI, f_ldL, f_ldA, f_iload, f_iload_n, f_lload, f_lload_n, f_aload, f_aload_n, f_istore, f_istore_n, f_lstore, f_lstore_n, f_astore, f_astore_n, f_iinc, f_icI, f_iadd, f_isub, f_imul, f_idiv, f_irem, f_iand, f_ior, f_ixor, f_ishl, f_ishr, f_iushr, f_i2l, f_i2b, f_i2s, f_ladd, f_lmul, f_lcmp, f_dupI, f_dupR, f_dup2, f_pop, f_goto, f_if, f_icmp, f_tab, f_ts0, f_ts1, f_getI, f_getZ, f_getR, f_putI, f_putR, f_gets, f_iald, f_bald, f_aald, f_iast, f_bast, f_aast, f_alen, f_new, f_newa, f_anew, f_virt, f_stat0, f_stat1, f_spec0, f_spec1, f_spec9, f_copy, f_max, f_min, f_cV1, f_cV0, f_cS1, f_cS0, f_iret, f_lret, f_vret, f_kG, pf0, cIg, inR, lget, lset, lset2, clr, entL, cnd, psh, catS, tsw, List.take_succ_cons, List.take_zero, List.drop_succ_cons, List.drop_zero, List.reverse_cons, List.reverse_nil, List.nil_append, List.cons_append, List.length_cons, List.length_nil, List.replicate_succ, List.replicate_zero, Nat.reduceAdd, Nat.reduceSub, Nat.reduceLeDiff, Nat.reduceLT, Nat.reduceEqDiff, Nat.reduceMul, Nat.zero_add, Nat.add_zero, Nat.le_refl, Nat.zero_le, Int.reduceEq, Int.reduceToNat, Int.toNat_natCast, Int.reduceNeg, Int.reduceAdd, Int.reduceSub, Int.reduceMul, Int.reduceLT, Int.reduceLE, Int.reduceDiv, Int.reduceMod, Bool.false_eq_true, ↓reduceIte, true_and, and_true, implies_true, forall_const, true_or, or_true, or_false, false_or, not_true_eq_false, not_false_eq_true, false_implies, Prod.mk.injEq, Fin.val_zero, Fin.val_one, Fin.isValue, Fin.reduceFinMk, Fin.val_two, mR_uI, mK_uI, mN_uI, mI_uR, mK_uR, mN_uR, mR_uC, mK_uC, mN_uC, Option.some.injEq, Sum.inl.injEq, Sum.inr.injEq, decide_true, decide_false, Bool.or_false, Bool.false_or, Bool.or_true, Bool.true_or, Nat.reduceBEq, beq_self_eq_true, show tb 128 = tb_128 from rfl, tb_128, tb_128_0, tb_128_1, tb_128_2, tb_128_3, tb_128_4, pfb, pfb_b, pfb_c, pfb_v, pfa_b, pfa_c, pfa_v]
      exact ⟨by omega, ih (j + 1) (by omega)⟩
  refine Ev_of mcd_128 mok_128 (by decide) rfl (Nat.le_of_ble_eq_true rfl) ?_
  rw [show yl 128 = 8 from rfl]
  refine G_w (pfb_ok X) LK_128 (fun i => i == 2) 10 _ _ _ _ ?_
  simp only [f_0, f_s, f_iconst, f_bipush, f_sipush, f_ldc, f_ldc_w, f_ldc2_w, f_ldI, f_ldL, f_ldA, f_iload, f_iload_n, f_lload, f_lload_n, f_aload, f_aload_n, f_istore, f_istore_n, f_lstore, f_lstore_n, f_astore, f_astore_n, f_iinc, f_icI, f_iadd, f_isub, f_imul, f_idiv, f_irem, f_iand, f_ior, f_ixor, f_ishl, f_ishr, f_iushr, f_i2l, f_i2b, f_i2s, f_ladd, f_lmul, f_lcmp, f_dupI, f_dupR, f_dup2, f_pop, f_goto, f_if, f_icmp, f_tab, f_ts0, f_ts1, f_getI, f_getZ, f_getR, f_putI, f_putR, f_gets, f_iald, f_bald, f_aald, f_iast, f_bast, f_aast, f_alen, f_new, f_newa, f_anew, f_virt, f_stat0, f_stat1, f_spec0, f_spec1, f_spec9, f_copy, f_max, f_min, f_cV1, f_cV0, f_cS1, f_cS0, f_iret, f_lret, f_vret, f_kG, pf0, cIg, inR, lget, lset, lset2, clr, entL, cnd, psh, catS, tsw, List.take_succ_cons, List.take_zero, List.drop_succ_cons, List.drop_zero, List.reverse_cons, List.reverse_nil, List.nil_append, List.cons_append, List.length_cons, List.length_nil, List.replicate_succ, List.replicate_zero, Nat.reduceAdd, Nat.reduceSub, Nat.reduceLeDiff, Nat.reduceLT, Nat.reduceEqDiff, Nat.reduceMul, Nat.zero_add, Nat.add_zero, Nat.le_refl, Nat.zero_le, Int.reduceEq, Int.reduceToNat, Int.toNat_natCast, Int.reduceNeg, Int.reduceAdd, Int.reduceSub, Int.reduceMul, Int.reduceLT, Int.reduceLE, Int.reduceDiv, Int.reduceMod, Bool.false_eq_true, ↓reduceIte, true_and, and_true, implies_true, forall_const, true_or, or_true, or_false, false_or, not_true_eq_false, not_false_eq_true, false_implies, Prod.mk.injEq, Fin.val_zero, Fin.val_one, Fin.isValue, Fin.reduceFinMk, Fin.val_two, mR_uI, mK_uI, mN_uI, mI_uR, mK_uR, mN_uR, mR_uC, mK_uC, mN_uC, Option.some.injEq, Sum.inl.injEq, Sum.inr.injEq, decide_true, decide_false, Bool.or_false, Bool.false_or, Bool.or_true, Bool.true_or, Nat.reduceBEq, beq_self_eq_true, show tb 128 = tb_128 from rfl, tb_128, tb_128_0, tb_128_1, tb_128_2, tb_128_3, tb_128_4, pfb, pfb_b, pfb_c, pfb_v, pfa_b, pfa_c, pfa_v]
  exact loop _ 0 (Nat.zero_add _)
