/-! takes -/
/-- what is left behind a multiple, of both -/
theorem m31 (m b : Int) : (31 - m) * b % 31 = (31 - b * m % 31) % 31 := by
  rw [Int.sub_mul, Int.mul_comm m b]
  generalize b * m = x
  omega
theorem m31a (a m b : Int) : (a + (31 - m) * b) % 31 = (a + (31 - b * m % 31)) % 31 := by
  rw [Int.sub_mul, Int.mul_comm m b]
  generalize b * m = x
  omega
/-- the terms ahead stay -/
theorem mrg_pre (o n f : Int) (b : Int × Int) (B : Po) : ∀ (A1 A2 : Po), (∀ t ∈ A1, rk o (b.2 + f) < rk o t.2) → mrg o n f (A1 ++ A2) (b :: B) = A1 ++ mrg o n f A2 (b :: B)
  | [], A2, _ => rfl
  | a :: A1, A2, h => by
    rw [List.cons_append, mrg, if_pos (h a List.mem_cons_self), mrg_pre o n f b B A1 A2 (fun t ht => h t (List.mem_cons_of_mem _ ht))]
    rfl
def LF (M : Mem) (L : Po) : Prop := ∀ j t, L[j]? = some t → mI M 528 j = 32 * t.2 + t.1
/-- how takes ends -/
def TK2 (M : Mem) (full : Po) (br : Bool) (r : Option AV) (M' : Mem) : Prop := Fr M M' (fun a => a = 7) NN (fun a => a = 528) ∧ ((r = some (aI 1) ∧ br = true ∧ full.length ≤ 30 ∧ TP M' 7 full) ∨ (r = some (aI 0) ∧ (br = false ∨ 30 < full.length)))
theorem shr5 {v p n : Int} (h : v = 32 * p + n) (hp : isPr p) (hn : 1 ≤ n ∧ n ≤ 30) : iShr v 5 = p ∧ iAnd v 31 = n := by
  unfold isPr at hp
  rw [iShr_5 (by omega) (by omega), iAnd_31 (by omega) (by omega), h]
  omega
set_option maxRecDepth 100000 in
set_option maxHeartbeats 4000000 in
theorem tk_loop (X : CX) (M : Mem) (bi : Nat) (o m f : Int) (L B : Po) (hs : Shp M) (ho : mI M 521 0 = o) (ho2 : 0 ≤ o ∧ o ≤ 2) (hbi : bi < 24) (okL : okP L) (okB : okP B) (hl30 : L.length ≤ 30) (hbr : ∀ t ∈ B, isPr (t.2 + f)) (hm : 1 ≤ m ∧ m ≤ 30) (full : Po) : ∀ (k i j : Nat) (A B2 R : Po) (M1 : Mem) (w9 w10 w11 w12 w13 : Option AV), A.length + B2.length ≤ k → L.drop i = A → i ≤ L.length → B.drop j = B2 → j ≤ B.length → full = R ++ mrg o (31 - m) f A B2 → R.length ≤ 30 → Fr M M1 (fun a => a = 7) NN (fun a => a = 528) → LF M1 L → TP M1 (8 + bi) B → (∀ i t, R[i]? = some t → mI M1 522 (210 + i) = 32 * t.2 + t.1) → G X y_m_takes (mZ M, mS M, 0, 0) 51 [some (aR (some 521)), some (aI bi), some (aI f), some (aI m), some (aI (8 + bi)), some (aI L.length), some (aI i), some (aI j), some (aI R.length), w9, w10, w11, w12, w13] [] M1 (TK2 M full true) := by
  have exit : ∀ (i j : Nat) (R : Po) (M1 : Mem) (w9 w10 w11 w12 w13 : Option AV), i = L.length → j = B.length → full = R → R.length ≤ 30 → Fr M M1 (fun a => a = 7) NN (fun a => a = 528) → TP M1 (8 + bi) B → (∀ i t, R[i]? = some t → mI M1 522 (210 + i) = 32 * t.2 + t.1) → G X y_m_takes (mZ M, mS M, 0, 0) 51 [some (aR (some 521)), some (aI bi), some (aI f), some (aI m), some (aI (8 + bi)), some (aI L.length), some (aI i), some (aI j), some (aI R.length), w9, w10, w11, w12, w13] [] M1 (TK2 M full true) := by
    intro i j R M1 w9 w10 w11 w12 w13 hi2 hj2 hfull hR hF hT hv
    have hs1 := hF.shp hs
    have l1 := hT.1
    have e8 : ((8 : Int) + (bi : Int)).toNat = 8 + bi := by omega
    have hlt : ¬ (i : Int) < (L.length : Int) := by omega
    have hge : (B.length : Int) ≤ (j : Int) := by omega
    subst hfull
    refine G_w (pfb_ok X) LK_143 (fun i => i == 51) 40 _ _ _ _ ?_
    simp only [f_0, f_s, f_iconst, f_bipush, f_sipush, f_ldc, f_ldc_w, f_ldc2_w, f_ldI, f_ldL, f_ldA, f_iload, f_iload_n, f_lload, f_lload_n, f_aload, f_aload_n, f_istore, f_istore_n, f_lstore, f_lstore_n, f_astore, f_astore_n, f_iinc, f_icI, f_iadd, f_isub, f_imul, f_idiv, f_irem, f_iand, f_ior, f_ixor, f_ishl, f_ishr, f_iushr, f_i2l, f_i2b, f_i2s, f_ladd, f_lmul, f_lcmp, f_dupI, f_dupR, f_dup2, f_pop, f_goto, f_if, f_icmp, f_tab, f_ts0, f_ts1, f_getI, f_getZ, f_getR, f_putI, f_putR, f_gets, f_iald, f_bald, f_aald, f_iast, f_bast, f_aast, f_alen, f_new, f_newa, f_anew, f_virt, f_stat0, f_stat1, f_spec0, f_spec1, f_spec9, f_copy, f_max, f_min, f_cV1, f_cV0, f_cS1, f_cS0, f_iret, f_lret, f_vret, f_kG, pf0, cIg, inR, lget, lset, lset2, clr, entL, cnd, psh, catS, tsw, List.take_succ_cons, List.take_zero, List.drop_succ_cons, List.drop_zero, List.reverse_cons, List.reverse_nil, List.nil_append, List.cons_append, List.length_cons, List.length_nil, List.replicate_succ, List.replicate_zero, Nat.reduceAdd, Nat.reduceSub, Nat.reduceLeDiff, Nat.reduceLT, Nat.reduceEqDiff, Nat.reduceMul, Nat.zero_add, Nat.add_zero, Nat.le_refl, Nat.zero_le, Int.reduceEq, Int.reduceToNat, Int.toNat_natCast, Int.reduceNeg, Int.reduceAdd, Int.reduceSub, Int.reduceMul, Int.reduceLT, Int.reduceLE, Int.reduceDiv, Int.reduceMod, Bool.false_eq_true, ↓reduceIte, true_and, and_true, implies_true, forall_const, true_or, or_true, or_false, false_or, not_true_eq_false, not_false_eq_true, false_implies, Prod.mk.injEq, Fin.val_zero, Fin.val_one, Fin.isValue, Fin.reduceFinMk, Fin.val_two, mR_uI, mK_uI, mN_uI, mI_uR, mK_uR, mN_uR, mR_uC, mK_uC, mN_uC, Option.some.injEq, Sum.inl.injEq, Sum.inr.injEq, decide_true, decide_false, Bool.or_false, Bool.false_or, Bool.or_true, Bool.true_or, Nat.reduceBEq, beq_self_eq_true, show tb 143 = tb_143 from rfl, tb_143, tb_143_0, tb_143_1, tb_143_2, tb_143_3, tb_143_4, tb_143_5, tb_143_6, pfb, pfb_b, pfb_c, pfb_v, pfa_b, pfa_c, pfa_v, hs1.mr1, hs1.mr2, hs1.mr3, hs1.mr4, hs1.mr5, hs1.mr14, hs1.mr15, hs1.mr16, hs1.mr18, hs1.mr19, hs1.mr20, hs1.mr21, hs1.mr22, hs1.mr23, hs1.mk521, hs1.mk522, hs1.mn522, hs1.mk523, hs1.mn523, hs1.mk524, hs1.mn524, hs1.mk525, hs1.mn525, hs1.mk526, hs1.mn526, hs1.mk527, hs1.mn527, hs1.mk528, hs1.mn528, hs1.mk529, hs1.mn529, hs1.mk530, hs1.mn530, hs1.mk531, hs1.mn531, hs1.mk532, hs1.mn532, hs1.mk533, hs1.mn533, hs1.mk534, hs1.mn534, hs1.mk535, hs1.mn535, l1, e8, hlt, hge]
    refine ⟨by omega, by omega, hF.us rfl, Or.inl ⟨rfl, rfl, hR, mI_uI_eq, hR, fun x t ht => ?_⟩⟩
    rw [mI_uI_ne (by omega)]
    exact hv x t ht
  intro k
  induction k with
  | zero =>
    intro i j A B2 R M1 w9 w10 w11 w12 w13 hk hA hi hB hj hfull hR hF hLF hT hv
    have hA0 : A = [] := List.length_eq_zero_iff.mp (by omega)
    have hB0 : B2 = [] := List.length_eq_zero_iff.mp (by omega)
    subst hA0
    subst hB0
    rw [mrg, List.append_nil] at hfull
    exact exit i j R M1 w9 w10 w11 w12 w13 (drop_nil hA hi) (drop_nil hB hj) hfull hR hF hT hv
  | succ k ih =>
    intro i j A B2 R M1 w9 w10 w11 w12 w13 hk hA hi hB hj hfull hR hF hLF hT hv
    have hs1 := hF.shp hs
    have l1 := hT.1
    have l2 := hT.2.1
    have o1 := (hF.2.1 0 (fun h => h)).trans ho
    have e8 : ((8 : Int) + (bi : Int)).toNat = 8 + bi := by omega
    -- what comes behind a step
    have step : ∀ (i' j' : Nat) (A' B' : Po) (v pr : Int) (w9 w10 w11 w12 : Int), L.drop i' = A' → i' ≤ L.length → B.drop j' = B' → j' ≤ B.length → A'.length + B'.length ≤ k → (0 ≤ v ∧ v < 31) → full = R ++ cns v pr (mrg o (31 - m) f A' B') → (w11 = 0 ∨ w11 = 1) → (w12 = 0 ∨ w12 = 1) → (if w11 = 0 then w10 else w9) = pr → (0 ≤ pr ∧ pr < 32768) → (i' : Int) = i + w11 → (j' : Int) = j + w12 → G X y_m_takes (mZ M, mS M, 0, 0) 155 [some (aR (some 521)), some (aI bi), some (aI f), some (aI m), some (aI (8 + bi)), some (aI L.length), some (aI i), some (aI j), some (aI R.length), some (aI w9), some (aI w10), some (aI w11), some (aI w12), some (aI v)] [] M1 (TK2 M full true) := by
      intro i' j' A' B' v pr w9 w10 w11 w12 hA' hi' hB' hj' hk' hv31 hful h11 h12 hpr hpb hii hjj
      by_cases hv0 : v ≤ 0
      · have hv00 : v = 0 := by omega
        have hn := ih i' j' A' B' R M1 (some (aI w9)) (some (aI w10)) (some (aI w11)) (some (aI w12)) (some (aI v)) hk' hA' hi' hB' hj' (by rw [hful]; unfold cns; rw [if_pos hv00]) hR hF hLF hT hv
        rw [hii, hjj] at hn
        rcases h11 with rfl | rfl <;> rcases h12 with rfl | rfl
        all_goals
          refine G_w (pfb_ok X) LK_143 (fun i => i == 51) 40 _ _ _ _ ?_
          simp only [f_0, f_s, f_iconst, f_bipush, f_sipush, f_ldc, f_ldc_w, f_ldc2_w, f_ldI, f_ldL, f_ldA, f_iload, f_iload_n, f_lload, f_lload_n, f_aload, f_aload_n, f_istore, f_istore_n, f_lstore, f_lstore_n, f_astore, f_astore_n, f_iinc, f_icI, f_iadd, f_isub, f_imul, f_idiv, f_irem, f_iand, f_ior, f_ixor, f_ishl, f_ishr, f_iushr, f_i2l, f_i2b, f_i2s, f_ladd, f_lmul, f_lcmp, f_dupI, f_dupR, f_dup2, f_pop, f_goto, f_if, f_icmp, f_tab, f_ts0, f_ts1, f_getI, f_getZ, f_getR, f_putI, f_putR, f_gets, f_iald, f_bald, f_aald, f_iast, f_bast, f_aast, f_alen, f_new, f_newa, f_anew, f_virt, f_stat0, f_stat1, f_spec0, f_spec1, f_spec9, f_copy, f_max, f_min, f_cV1, f_cV0, f_cS1, f_cS0, f_iret, f_lret, f_vret, f_kG, pf0, cIg, inR, lget, lset, lset2, clr, entL, cnd, psh, catS, tsw, List.take_succ_cons, List.take_zero, List.drop_succ_cons, List.drop_zero, List.reverse_cons, List.reverse_nil, List.nil_append, List.cons_append, List.length_cons, List.length_nil, List.replicate_succ, List.replicate_zero, Nat.reduceAdd, Nat.reduceSub, Nat.reduceLeDiff, Nat.reduceLT, Nat.reduceEqDiff, Nat.reduceMul, Nat.zero_add, Nat.add_zero, Nat.le_refl, Nat.zero_le, Int.reduceEq, Int.reduceToNat, Int.toNat_natCast, Int.reduceNeg, Int.reduceAdd, Int.reduceSub, Int.reduceMul, Int.reduceLT, Int.reduceLE, Int.reduceDiv, Int.reduceMod, Bool.false_eq_true, ↓reduceIte, true_and, and_true, implies_true, forall_const, true_or, or_true, or_false, false_or, not_true_eq_false, not_false_eq_true, false_implies, Prod.mk.injEq, Fin.val_zero, Fin.val_one, Fin.isValue, Fin.reduceFinMk, Fin.val_two, mR_uI, mK_uI, mN_uI, mI_uR, mK_uR, mN_uR, mR_uC, mK_uC, mN_uC, Option.some.injEq, Sum.inl.injEq, Sum.inr.injEq, decide_true, decide_false, Bool.or_false, Bool.false_or, Bool.or_true, Bool.true_or, Nat.reduceBEq, beq_self_eq_true, show tb 143 = tb_143 from rfl, tb_143, tb_143_0, tb_143_1, tb_143_2, tb_143_3, tb_143_4, tb_143_5, tb_143_6, pfb, pfb_b, pfb_c, pfb_v, pfa_b, pfa_c, pfa_v, hv0]
          (repeat' (first | with_reducible apply And.intro | with_reducible intro _)) <;> (try omega)
          all_goals exact hn
      · have hfl : full = R ++ ((v, pr) :: mrg o (31 - m) f A' B') := by rw [hful]; unfold cns; rw [if_neg (by omega)]
        by_cases h30 : (R.length : Int) = 30
        · refine G_w (pfb_ok X) LK_143 (fun i => i == 51) 40 _ _ _ _ ?_
          simp only [f_0, f_s, f_iconst, f_bipush, f_sipush, f_ldc, f_ldc_w, f_ldc2_w, f_ldI, f_ldL, f_ldA, f_iload, f_iload_n, f_lload, f_lload_n, f_aload, f_aload_n, f_istore, f_istore_n, f_lstore, f_lstore_n, f_astore, f_astore_n, f_iinc, f_icI, f_iadd, f_isub, f_imul, f_idiv, f_irem, f_iand, f_ior, f_ixor, f_ishl, f_ishr, f_iushr, f_i2l, f_i2b, f_i2s, f_ladd, f_lmul, f_lcmp, f_dupI, f_dupR, f_dup2, f_pop, f_goto, f_if, f_icmp, f_tab, f_ts0, f_ts1, f_getI, f_getZ, f_getR, f_putI, f_putR, f_gets, f_iald, f_bald, f_aald, f_iast, f_bast, f_aast, f_alen, f_new, f_newa, f_anew, f_virt, f_stat0, f_stat1, f_spec0, f_spec1, f_spec9, f_copy, f_max, f_min, f_cV1, f_cV0, f_cS1, f_cS0, f_iret, f_lret, f_vret, f_kG, pf0, cIg, inR, lget, lset, lset2, clr, entL, cnd, psh, catS, tsw, List.take_succ_cons, List.take_zero, List.drop_succ_cons, List.drop_zero, List.reverse_cons, List.reverse_nil, List.nil_append, List.cons_append, List.length_cons, List.length_nil, List.replicate_succ, List.replicate_zero, Nat.reduceAdd, Nat.reduceSub, Nat.reduceLeDiff, Nat.reduceLT, Nat.reduceEqDiff, Nat.reduceMul, Nat.zero_add, Nat.add_zero, Nat.le_refl, Nat.zero_le, Int.reduceEq, Int.reduceToNat, Int.toNat_natCast, Int.reduceNeg, Int.reduceAdd, Int.reduceSub, Int.reduceMul, Int.reduceLT, Int.reduceLE, Int.reduceDiv, Int.reduceMod, Bool.false_eq_true, ↓reduceIte, true_and, and_true, implies_true, forall_const, true_or, or_true, or_false, false_or, not_true_eq_false, not_false_eq_true, false_implies, Prod.mk.injEq, Fin.val_zero, Fin.val_one, Fin.isValue, Fin.reduceFinMk, Fin.val_two, mR_uI, mK_uI, mN_uI, mI_uR, mK_uR, mN_uR, mR_uC, mK_uC, mN_uC, Option.some.injEq, Sum.inl.injEq, Sum.inr.injEq, decide_true, decide_false, Bool.or_false, Bool.false_or, Bool.or_true, Bool.true_or, Nat.reduceBEq, beq_self_eq_true, show tb 143 = tb_143 from rfl, tb_143, tb_143_0, tb_143_1, tb_143_2, tb_143_3, tb_143_4, tb_143_5, tb_143_6, pfb, pfb_b, pfb_c, pfb_v, pfa_b, pfa_c, pfa_v, hv0, h30]
          refine ⟨hF, Or.inr ⟨rfl, Or.inr ?_⟩⟩
          rw [hfl, List.length_append, List.length_cons]
          omega
        · have e2 : ((210 : Int) + (R.length : Int)).toNat = 210 + R.length := by omega
          have hn := ih i' j' A' B' (R ++ [(v, pr)]) (uI M1 522 (210 + R.length) (32 * pr + v)) (some (aI w9)) (some (aI w10)) (some (aI w11)) (some (aI w12)) (some (aI v)) hk' hA' hi' hB' hj' (by rw [hfl]; simp) (by rw [List.length_append, List.length_singleton]; omega) (hF.ut (p := 7) (j := R.length) rfl (by omega)) (fun x t ht => by rw [mI_uI_ne (by omega)]; exact hLF x t ht) (by
            refine ⟨(mI_uI_ne (by omega)).trans l1, l2, fun x t ht => ?_⟩
            have hx := (List.getElem?_eq_some_iff.mp ht).1
            rw [mI_uI_nk (by omega)]
            exact hT.2.2 x t ht) (fun x t ht => by
            by_cases hx : x < R.length
            · rw [List.getElem?_append_left hx] at ht
              rw [mI_uI_nk (by omega)]
              exact hv x t ht
            · have hx2 := (List.getElem?_eq_some_iff.mp ht).1
              rw [List.length_append, List.length_singleton] at hx2
              have hx3 : x = R.length := by omega
              subst hx3
              rw [List.getElem?_append_right (Nat.le_refl _), Nat.sub_self, List.getElem?_cons_zero, Option.some.injEq] at ht
              subst ht
              exact mI_uI_eq)
          rw [hii, hjj] at hn
          rw [show ((R ++ [(v, pr)]).length : Int) = (R.length : Int) + 1 by rw [List.length_append]; rfl] at hn
          rcases h11 with rfl | rfl <;> rcases h12 with rfl | rfl
          all_goals
            simp only [Int.reduceEq, ↓reduceIte] at hpr
            subst hpr
            refine G_w (pfb_ok X) LK_143 (fun i => i == 51) 40 _ _ _ _ ?_
            simp only [f_0, f_s, f_iconst, f_bipush, f_sipush, f_ldc, f_ldc_w, f_ldc2_w, f_ldI, f_ldL, f_ldA, f_iload, f_iload_n, f_lload, f_lload_n, f_aload, f_aload_n, f_istore, f_istore_n, f_lstore, f_lstore_n, f_astore, f_astore_n, f_iinc, f_icI, f_iadd, f_isub, f_imul, f_idiv, f_irem, f_iand, f_ior, f_ixor, f_ishl, f_ishr, f_iushr, f_i2l, f_i2b, f_i2s, f_ladd, f_lmul, f_lcmp, f_dupI, f_dupR, f_dup2, f_pop, f_goto, f_if, f_icmp, f_tab, f_ts0, f_ts1, f_getI, f_getZ, f_getR, f_putI, f_putR, f_gets, f_iald, f_bald, f_aald, f_iast, f_bast, f_aast, f_alen, f_new, f_newa, f_anew, f_virt, f_stat0, f_stat1, f_spec0, f_spec1, f_spec9, f_copy, f_max, f_min, f_cV1, f_cV0, f_cS1, f_cS0, f_iret, f_lret, f_vret, f_kG, pf0, cIg, inR, lget, lset, lset2, clr, entL, cnd, psh, catS, tsw, List.take_succ_cons, List.take_zero, List.drop_succ_cons, List.drop_zero, List.reverse_cons, List.reverse_nil, List.nil_append, List.cons_append, List.length_cons, List.length_nil, List.replicate_succ, List.replicate_zero, Nat.reduceAdd, Nat.reduceSub, Nat.reduceLeDiff, Nat.reduceLT, Nat.reduceEqDiff, Nat.reduceMul, Nat.zero_add, Nat.add_zero, Nat.le_refl, Nat.zero_le, Int.reduceEq, Int.reduceToNat, Int.toNat_natCast, Int.reduceNeg, Int.reduceAdd, Int.reduceSub, Int.reduceMul, Int.reduceLT, Int.reduceLE, Int.reduceDiv, Int.reduceMod, Bool.false_eq_true, ↓reduceIte, true_and, and_true, implies_true, forall_const, true_or, or_true, or_false, false_or, not_true_eq_false, not_false_eq_true, false_implies, Prod.mk.injEq, Fin.val_zero, Fin.val_one, Fin.isValue, Fin.reduceFinMk, Fin.val_two, mR_uI, mK_uI, mN_uI, mI_uR, mK_uR, mN_uR, mR_uC, mK_uC, mN_uC, Option.some.injEq, Sum.inl.injEq, Sum.inr.injEq, decide_true, decide_false, Bool.or_false, Bool.false_or, Bool.or_true, Bool.true_or, Nat.reduceBEq, beq_self_eq_true, show tb 143 = tb_143 from rfl, tb_143, tb_143_0, tb_143_1, tb_143_2, tb_143_3, tb_143_4, tb_143_5, tb_143_6, pfb, pfb_b, pfb_c, pfb_v, pfa_b, pfa_c, pfa_v, hs1.mr1, hs1.mr2, hs1.mr3, hs1.mr4, hs1.mr5, hs1.mr14, hs1.mr15, hs1.mr16, hs1.mr18, hs1.mr19, hs1.mr20, hs1.mr21, hs1.mr22, hs1.mr23, hs1.mk521, hs1.mk522, hs1.mn522, hs1.mk523, hs1.mn523, hs1.mk524, hs1.mn524, hs1.mk525, hs1.mn525, hs1.mk526, hs1.mn526, hs1.mk527, hs1.mn527, hs1.mk528, hs1.mn528, hs1.mk529, hs1.mn529, hs1.mk530, hs1.mn530, hs1.mk531, hs1.mn531, hs1.mk532, hs1.mn532, hs1.mk533, hs1.mn533, hs1.mk534, hs1.mn534, hs1.mk535, hs1.mn535, hv0, h30, e2]
            (repeat' (first | with_reducible apply And.intro | with_reducible intro _)) <;> (try omega)
            all_goals exact hn
    have e8' : ((8 + bi : Nat) : Int) = 8 + (bi : Int) := by omega
    cases hAc : A with
    | nil =>
      cases hBc : B2 with
      | nil =>
        rw [hAc, hBc, mrg, List.append_nil] at hfull
        exact exit i j R M1 w9 w10 w11 w12 w13 (drop_nil (hA.trans hAc) hi) (drop_nil (hB.trans hBc) hj) hfull hR hF hT hv
      | cons b B' =>
        rw [hAc, hBc, mrg] at hfull
        have hi2 := drop_nil (hA.trans hAc) hi
        obtain ⟨p1, p2, p3⟩ := drop_cons (hB.trans hBc)
        obtain ⟨c1, c2, c3⟩ := tm_ok hT okB p1
        rw [e8'] at c1 c2 c3
        have okb := okB b (List.mem_of_getElem? p1)
        have okb1 := okb.1
        have prb := hbr b (List.mem_of_getElem? p1)
        have prb2 := prb
        unfold isPr at prb2
        have hmul : 0 ≤ b.1 * m ∧ b.1 * m ≤ 900 := ⟨Int.mul_nonneg (by omega) (by omega), Int.mul_le_mul (a := b.1) (b := m) (c := 30) (d := 30) (by omega) (by omega) (by omega) (by omega)⟩
        have hlt : ¬ (i : Int) < (L.length : Int) := by omega
        have hge : ¬ (B.length : Int) ≤ (j : Int) := by omega
        have hge2 : (L.length : Int) ≤ (i : Int) := by omega
        have hne1 : ¬ b.2 + f = -1 := by omega
        rw [hAc] at hA
        rw [hBc, List.length_cons] at hk
        have hm9 := m31a 0 m b.1
        have hn := step i (j + 1) [] B' ((0 + (31 - b.1 * m % 31)) % 31) (b.2 + f) (-1) (b.2 + f) 0 1 hA hi p2 (by omega) (by simp; omega) (by omega) (by rw [hfull, hm9]) (Or.inl rfl) (Or.inr rfl) (by rw [if_pos rfl]) (by omega) (by omega) (by omega)
        refine G_w (pfb_ok X) LK_143 (fun i => i == 51 || i == 155) 120 _ _ _ _ ?_
        simp only [f_0, f_s, f_iconst, f_bipush, f_sipush, f_ldc, f_ldc_w, f_ldc2_w, f_ldI, f_ldL, f_ldA, f_iload, f_iload_n, f_lload, f_lload_n, f_aload, f_aload_n, f_istore, f_istore_n, f_lstore, f_lstore_n, f_astore, f_astore_n, f_iinc, f_icI, f_iadd, f_isub, f_imul, f_idiv, f_irem, f_iand, f_ior, f_ixor, f_ishl, f_ishr, f_iushr, f_i2l, f_i2b, f_i2s, f_ladd, f_lmul, f_lcmp, f_dupI, f_dupR, f_dup2, f_pop, f_goto, f_if, f_icmp, f_tab, f_ts0, f_ts1, f_getI, f_getZ, f_getR, f_putI, f_putR, f_gets, f_iald, f_bald, f_aald, f_iast, f_bast, f_aast, f_alen, f_new, f_newa, f_anew, f_virt, f_stat0, f_stat1, f_spec0, f_spec1, f_spec9, f_copy, f_max, f_min, f_cV1, f_cV0, f_cS1, f_cS0, f_iret, f_lret, f_vret, f_kG, pf0, cIg, inR, lget, lset, lset2, clr, entL, cnd, psh, catS, tsw, List.take_succ_cons, List.take_zero, List.drop_succ_cons, List.drop_zero, List.reverse_cons, List.reverse_nil, List.nil_append, List.cons_append, List.length_cons, List.length_nil, List.replicate_succ, List.replicate_zero, Nat.reduceAdd, Nat.reduceSub, Nat.reduceLeDiff, Nat.reduceLT, Nat.reduceEqDiff, Nat.reduceMul, Nat.zero_add, Nat.add_zero, Nat.le_refl, Nat.zero_le, Int.reduceEq, Int.reduceToNat, Int.toNat_natCast, Int.reduceNeg, Int.reduceAdd, Int.reduceSub, Int.reduceMul, Int.reduceLT, Int.reduceLE, Int.reduceDiv, Int.reduceMod, Bool.false_eq_true, ↓reduceIte, true_and, and_true, implies_true, forall_const, true_or, or_true, or_false, false_or, not_true_eq_false, not_false_eq_true, false_implies, Prod.mk.injEq, Fin.val_zero, Fin.val_one, Fin.isValue, Fin.reduceFinMk, Fin.val_two, mR_uI, mK_uI, mN_uI, mI_uR, mK_uR, mN_uR, mR_uC, mK_uC, mN_uC, Option.some.injEq, Sum.inl.injEq, Sum.inr.injEq, decide_true, decide_false, Bool.or_false, Bool.false_or, Bool.or_true, Bool.true_or, Nat.reduceBEq, beq_self_eq_true, show tb 143 = tb_143 from rfl, tb_143, tb_143_0, tb_143_1, tb_143_2, tb_143_3, tb_143_4, tb_143_5, tb_143_6, pfb, pfb_b, pfb_c, pfb_v, pfa_b, pfa_c, pfa_v, hs1.mr1, hs1.mr2, hs1.mr3, hs1.mr4, hs1.mr5, hs1.mr14, hs1.mr15, hs1.mr16, hs1.mr18, hs1.mr19, hs1.mr20, hs1.mr21, hs1.mr22, hs1.mr23, hs1.mk521, hs1.mk522, hs1.mn522, hs1.mk523, hs1.mn523, hs1.mk524, hs1.mn524, hs1.mk525, hs1.mn525, hs1.mk526, hs1.mn526, hs1.mk527, hs1.mn527, hs1.mk528, hs1.mn528, hs1.mk529, hs1.mn529, hs1.mk530, hs1.mn530, hs1.mk531, hs1.mn531, hs1.mk532, hs1.mn532, hs1.mk533, hs1.mn533, hs1.mk534, hs1.mn534, hs1.mk535, hs1.mn535, hs1, l1, e8, hlt, hge, hge2, c1, c2, c3, hne1]
        (repeat' (first | with_reducible apply And.intro | with_reducible intro _)) <;> (try omega)
        all_goals exact hn
    | cons a A' =>
      obtain ⟨q1, q2, q3⟩ := drop_cons (hA.trans hAc)
      have oka := okL a (List.mem_of_getElem? q1)
      have oka1 := oka.1
      have oka2 := oka.2
      obtain ⟨s1, s2⟩ := shr5 (hLF i a q1) oka.2 oka.1
      unfold isPr at oka2
      have hlt : (i : Int) < (L.length : Int) := by omega
      have hge2 : ¬ (L.length : Int) ≤ (i : Int) := by omega
      have hnea : ¬ a.2 = -1 := by omega
      cases hBc : B2 with
      | nil =>
        rw [hAc, hBc, mrg] at hfull
        have hj2 := drop_nil (hB.trans hBc) hj
        have hge : (B.length : Int) ≤ (j : Int) := by omega
        rw [hBc] at hB
        rw [hAc, List.length_cons] at hk
        have e0 : (a.1 + 0) % 31 = a.1 := by omega
        have hn := step (i + 1) j A' [] ((a.1 + 0) % 31) a.2 a.2 (-1) 1 0 q2 (by omega) hB hj (by simp; omega) (by omega) (by rw [hfull, e0]; unfold cns; rw [if_neg (by omega)]) (Or.inr rfl) (Or.inl rfl) (by rw [if_neg (by omega)]) (by omega) (by omega) (by omega)
        refine G_w (pfb_ok X) LK_143 (fun i => i == 51 || i == 155) 120 _ _ _ _ ?_
        simp only [f_0, f_s, f_iconst, f_bipush, f_sipush, f_ldc, f_ldc_w, f_ldc2_w, f_ldI, f_ldL, f_ldA, f_iload, f_iload_n, f_lload, f_lload_n, f_aload, f_aload_n, f_istore, f_istore_n, f_lstore, f_lstore_n, f_astore, f_astore_n, f_iinc, f_icI, f_iadd, f_isub, f_imul, f_idiv, f_irem, f_iand, f_ior, f_ixor, f_ishl, f_ishr, f_iushr, f_i2l, f_i2b, f_i2s, f_ladd, f_lmul, f_lcmp, f_dupI, f_dupR, f_dup2, f_pop, f_goto, f_if, f_icmp, f_tab, f_ts0, f_ts1, f_getI, f_getZ, f_getR, f_putI, f_putR, f_gets, f_iald, f_bald, f_aald, f_iast, f_bast, f_aast, f_alen, f_new, f_newa, f_anew, f_virt, f_stat0, f_stat1, f_spec0, f_spec1, f_spec9, f_copy, f_max, f_min, f_cV1, f_cV0, f_cS1, f_cS0, f_iret, f_lret, f_vret, f_kG, pf0, cIg, inR, lget, lset, lset2, clr, entL, cnd, psh, catS, tsw, List.take_succ_cons, List.take_zero, List.drop_succ_cons, List.drop_zero, List.reverse_cons, List.reverse_nil, List.nil_append, List.cons_append, List.length_cons, List.length_nil, List.replicate_succ, List.replicate_zero, Nat.reduceAdd, Nat.reduceSub, Nat.reduceLeDiff, Nat.reduceLT, Nat.reduceEqDiff, Nat.reduceMul, Nat.zero_add, Nat.add_zero, Nat.le_refl, Nat.zero_le, Int.reduceEq, Int.reduceToNat, Int.toNat_natCast, Int.reduceNeg, Int.reduceAdd, Int.reduceSub, Int.reduceMul, Int.reduceLT, Int.reduceLE, Int.reduceDiv, Int.reduceMod, Bool.false_eq_true, ↓reduceIte, true_and, and_true, implies_true, forall_const, true_or, or_true, or_false, false_or, not_true_eq_false, not_false_eq_true, false_implies, Prod.mk.injEq, Fin.val_zero, Fin.val_one, Fin.isValue, Fin.reduceFinMk, Fin.val_two, mR_uI, mK_uI, mN_uI, mI_uR, mK_uR, mN_uR, mR_uC, mK_uC, mN_uC, Option.some.injEq, Sum.inl.injEq, Sum.inr.injEq, decide_true, decide_false, Bool.or_false, Bool.false_or, Bool.or_true, Bool.true_or, Nat.reduceBEq, beq_self_eq_true, show tb 143 = tb_143 from rfl, tb_143, tb_143_0, tb_143_1, tb_143_2, tb_143_3, tb_143_4, tb_143_5, tb_143_6, pfb, pfb_b, pfb_c, pfb_v, pfa_b, pfa_c, pfa_v, hs1.mr1, hs1.mr2, hs1.mr3, hs1.mr4, hs1.mr5, hs1.mr14, hs1.mr15, hs1.mr16, hs1.mr18, hs1.mr19, hs1.mr20, hs1.mr21, hs1.mr22, hs1.mr23, hs1.mk521, hs1.mk522, hs1.mn522, hs1.mk523, hs1.mn523, hs1.mk524, hs1.mn524, hs1.mk525, hs1.mn525, hs1.mk526, hs1.mn526, hs1.mk527, hs1.mn527, hs1.mk528, hs1.mn528, hs1.mk529, hs1.mn529, hs1.mk530, hs1.mn530, hs1.mk531, hs1.mn531, hs1.mk532, hs1.mn532, hs1.mk533, hs1.mn533, hs1.mk534, hs1.mn534, hs1.mk535, hs1.mn535, hs1, l1, e8, hlt, hge, hge2, s1, s2, hnea]
        (repeat' (first | with_reducible apply And.intro | with_reducible intro _)) <;> (try omega)
        all_goals exact hn
      | cons b B' =>
        rw [hAc, hBc, mrg] at hfull
        obtain ⟨p1, p2, p3⟩ := drop_cons (hB.trans hBc)
        obtain ⟨c1, c2, c3⟩ := tm_ok hT okB p1
        rw [e8'] at c1 c2 c3
        have okb := okB b (List.mem_of_getElem? p1)
        have okb1 := okb.1
        have prb := hbr b (List.mem_of_getElem? p1)
        have prb2 := prb
        unfold isPr at prb2
        have hmul : 0 ≤ b.1 * m ∧ b.1 * m ≤ 900 := ⟨Int.mul_nonneg (by omega) (by omega), Int.mul_le_mul (a := b.1) (b := m) (c := 30) (d := 30) (by omega) (by omega) (by omega) (by omega)⟩
        have hge : ¬ (B.length : Int) ≤ (j : Int) := by omega
        have hneb : ¬ b.2 + f = -1 := by omega
        rw [hAc] at hk
        rw [hBc, List.length_cons, List.length_cons] at hk
        by_cases r1 : rk o (b.2 + f) < rk o a.2
        · rw [if_pos r1] at hfull
          have e0 : (a.1 + 0) % 31 = a.1 := by omega
          have hneq : ¬ a.2 = b.2 + f := fun e => by rw [e] at r1; omega
          have hn := step (i + 1) j A' (b :: B') ((a.1 + 0) % 31) a.2 a.2 (b.2 + f) 1 0 q2 (by omega) (hB.trans hBc) hj (by rw [List.length_cons]; omega) (by omega) (by rw [hfull, e0]; unfold cns; rw [if_neg (by omega)]) (Or.inr rfl) (Or.inl rfl) (by rw [if_neg (by omega)]) (by omega) (by omega) (by omega)
          refine G_w (pfb_ok X) LK_143 (fun i => i == 51 || i == 155) 120 _ _ _ _ ?_
          simp only [f_0, f_s, f_iconst, f_bipush, f_sipush, f_ldc, f_ldc_w, f_ldc2_w, f_ldI, f_ldL, f_ldA, f_iload, f_iload_n, f_lload, f_lload_n, f_aload, f_aload_n, f_istore, f_istore_n, f_lstore, f_lstore_n, f_astore, f_astore_n, f_iinc, f_icI, f_iadd, f_isub, f_imul, f_idiv, f_irem, f_iand, f_ior, f_ixor, f_ishl, f_ishr, f_iushr, f_i2l, f_i2b, f_i2s, f_ladd, f_lmul, f_lcmp, f_dupI, f_dupR, f_dup2, f_pop, f_goto, f_if, f_icmp, f_tab, f_ts0, f_ts1, f_getI, f_getZ, f_getR, f_putI, f_putR, f_gets, f_iald, f_bald, f_aald, f_iast, f_bast, f_aast, f_alen, f_new, f_newa, f_anew, f_virt, f_stat0, f_stat1, f_spec0, f_spec1, f_spec9, f_copy, f_max, f_min, f_cV1, f_cV0, f_cS1, f_cS0, f_iret, f_lret, f_vret, f_kG, pf0, cIg, inR, lget, lset, lset2, clr, entL, cnd, psh, catS, tsw, List.take_succ_cons, List.take_zero, List.drop_succ_cons, List.drop_zero, List.reverse_cons, List.reverse_nil, List.nil_append, List.cons_append, List.length_cons, List.length_nil, List.replicate_succ, List.replicate_zero, Nat.reduceAdd, Nat.reduceSub, Nat.reduceLeDiff, Nat.reduceLT, Nat.reduceEqDiff, Nat.reduceMul, Nat.zero_add, Nat.add_zero, Nat.le_refl, Nat.zero_le, Int.reduceEq, Int.reduceToNat, Int.toNat_natCast, Int.reduceNeg, Int.reduceAdd, Int.reduceSub, Int.reduceMul, Int.reduceLT, Int.reduceLE, Int.reduceDiv, Int.reduceMod, Bool.false_eq_true, ↓reduceIte, true_and, and_true, implies_true, forall_const, true_or, or_true, or_false, false_or, not_true_eq_false, not_false_eq_true, false_implies, Prod.mk.injEq, Fin.val_zero, Fin.val_one, Fin.isValue, Fin.reduceFinMk, Fin.val_two, mR_uI, mK_uI, mN_uI, mI_uR, mK_uR, mN_uR, mR_uC, mK_uC, mN_uC, Option.some.injEq, Sum.inl.injEq, Sum.inr.injEq, decide_true, decide_false, Bool.or_false, Bool.false_or, Bool.or_true, Bool.true_or, Nat.reduceBEq, beq_self_eq_true, show tb 143 = tb_143 from rfl, tb_143, tb_143_0, tb_143_1, tb_143_2, tb_143_3, tb_143_4, tb_143_5, tb_143_6, pfb, pfb_b, pfb_c, pfb_v, pfa_b, pfa_c, pfa_v, hs1.mr1, hs1.mr2, hs1.mr3, hs1.mr4, hs1.mr5, hs1.mr14, hs1.mr15, hs1.mr16, hs1.mr18, hs1.mr19, hs1.mr20, hs1.mr21, hs1.mr22, hs1.mr23, hs1.mk521, hs1.mk522, hs1.mn522, hs1.mk523, hs1.mn523, hs1.mk524, hs1.mn524, hs1.mk525, hs1.mn525, hs1.mk526, hs1.mn526, hs1.mk527, hs1.mn527, hs1.mk528, hs1.mn528, hs1.mk529, hs1.mn529, hs1.mk530, hs1.mn530, hs1.mk531, hs1.mn531, hs1.mk532, hs1.mn532, hs1.mk533, hs1.mn533, hs1.mk534, hs1.mn534, hs1.mk535, hs1.mn535, hs1, l1, e8, hlt, hge, hge2, s1, s2, c1, c2, hnea, hneb, hneq]
          refine ⟨by omega, by omega, by omega, by omega, ?_⟩
          refine Ev_mono (e_isAhead X M1 a.2 (b.2 + f) hs1 oka.2 prb (by rw [o1]; exact ho2)) (fun r M2 hr _ _ => ?_)
          obtain ⟨rfl, hM2⟩ := hr
          rw [o1, if_pos r1]
          subst hM2
          simp only [f_kG, psh, Nat.reduceAdd]
          refine G_w (pfb_ok X) LK_143 (fun i => i == 51 || i == 155) 120 _ _ _ _ ?_
          simp only [f_0, f_s, f_iconst, f_bipush, f_sipush, f_ldc, f_ldc_w, f_ldc2_w, f_ldI, f_ldL, f_ldA, f_iload, f_iload_n, f_lload, f_lload_n, f_aload, f_aload_n, f_istore, f_istore_n, f_lstore, f_lstore_n, f_astore, f_astore_n, f_iinc, f_icI, f_iadd, f_isub, f_imul, f_idiv, f_irem, f_iand, f_ior, f_ixor, f_ishl, f_ishr, f_iushr, f_i2l, f_i2b, f_i2s, f_ladd, f_lmul, f_lcmp, f_dupI, f_dupR, f_dup2, f_pop, f_goto, f_if, f_icmp, f_tab, f_ts0, f_ts1, f_getI, f_getZ, f_getR, f_putI, f_putR, f_gets, f_iald, f_bald, f_aald, f_iast, f_bast, f_aast, f_alen, f_new, f_newa, f_anew, f_virt, f_stat0, f_stat1, f_spec0, f_spec1, f_spec9, f_copy, f_max, f_min, f_cV1, f_cV0, f_cS1, f_cS0, f_iret, f_lret, f_vret, f_kG, pf0, cIg, inR, lget, lset, lset2, clr, entL, cnd, psh, catS, tsw, List.take_succ_cons, List.take_zero, List.drop_succ_cons, List.drop_zero, List.reverse_cons, List.reverse_nil, List.nil_append, List.cons_append, List.length_cons, List.length_nil, List.replicate_succ, List.replicate_zero, Nat.reduceAdd, Nat.reduceSub, Nat.reduceLeDiff, Nat.reduceLT, Nat.reduceEqDiff, Nat.reduceMul, Nat.zero_add, Nat.add_zero, Nat.le_refl, Nat.zero_le, Int.reduceEq, Int.reduceToNat, Int.toNat_natCast, Int.reduceNeg, Int.reduceAdd, Int.reduceSub, Int.reduceMul, Int.reduceLT, Int.reduceLE, Int.reduceDiv, Int.reduceMod, Bool.false_eq_true, ↓reduceIte, true_and, and_true, implies_true, forall_const, true_or, or_true, or_false, false_or, not_true_eq_false, not_false_eq_true, false_implies, Prod.mk.injEq, Fin.val_zero, Fin.val_one, Fin.isValue, Fin.reduceFinMk, Fin.val_two, mR_uI, mK_uI, mN_uI, mI_uR, mK_uR, mN_uR, mR_uC, mK_uC, mN_uC, Option.some.injEq, Sum.inl.injEq, Sum.inr.injEq, decide_true, decide_false, Bool.or_false, Bool.false_or, Bool.or_true, Bool.true_or, Nat.reduceBEq, beq_self_eq_true, show tb 143 = tb_143 from rfl, tb_143, tb_143_0, tb_143_1, tb_143_2, tb_143_3, tb_143_4, tb_143_5, tb_143_6, pfb, pfb_b, pfb_c, pfb_v, pfa_b, pfa_c, pfa_v, hs1.mr1, hs1.mr2, hs1.mr3, hs1.mr4, hs1.mr5, hs1.mr14, hs1.mr15, hs1.mr16, hs1.mr18, hs1.mr19, hs1.mr20, hs1.mr21, hs1.mr22, hs1.mr23, hs1.mk521, hs1.mk522, hs1.mn522, hs1.mk523, hs1.mn523, hs1.mk524, hs1.mn524, hs1.mk525, hs1.mn525, hs1.mk526, hs1.mn526, hs1.mk527, hs1.mn527, hs1.mk528, hs1.mn528, hs1.mk529, hs1.mn529, hs1.mk530, hs1.mn530, hs1.mk531, hs1.mn531, hs1.mk532, hs1.mn532, hs1.mk533, hs1.mn533, hs1.mk534, hs1.mn534, hs1.mk535, hs1.mn535, hs1, hnea, hneb, hneq]
          refine Ev_mono (e_isAhead X M2 (b.2 + f) a.2 hs1 prb oka.2 (by rw [o1]; exact ho2)) (fun r M3 hr _ _ => ?_)
          obtain ⟨rfl, hM3⟩ := hr
          rw [o1, if_neg (by omega)]
          subst hM3
          simp only [f_kG, psh, Nat.reduceAdd]
          refine G_w (pfb_ok X) LK_143 (fun i => i == 51 || i == 155) 120 _ _ _ _ ?_
          simp only [f_0, f_s, f_iconst, f_bipush, f_sipush, f_ldc, f_ldc_w, f_ldc2_w, f_ldI, f_ldL, f_ldA, f_iload, f_iload_n, f_lload, f_lload_n, f_aload, f_aload_n, f_istore, f_istore_n, f_lstore, f_lstore_n, f_astore, f_astore_n, f_iinc, f_icI, f_iadd, f_isub, f_imul, f_idiv, f_irem, f_iand, f_ior, f_ixor, f_ishl, f_ishr, f_iushr, f_i2l, f_i2b, f_i2s, f_ladd, f_lmul, f_lcmp, f_dupI, f_dupR, f_dup2, f_pop, f_goto, f_if, f_icmp, f_tab, f_ts0, f_ts1, f_getI, f_getZ, f_getR, f_putI, f_putR, f_gets, f_iald, f_bald, f_aald, f_iast, f_bast, f_aast, f_alen, f_new, f_newa, f_anew, f_virt, f_stat0, f_stat1, f_spec0, f_spec1, f_spec9, f_copy, f_max, f_min, f_cV1, f_cV0, f_cS1, f_cS0, f_iret, f_lret, f_vret, f_kG, pf0, cIg, inR, lget, lset, lset2, clr, entL, cnd, psh, catS, tsw, List.take_succ_cons, List.take_zero, List.drop_succ_cons, List.drop_zero, List.reverse_cons, List.reverse_nil, List.nil_append, List.cons_append, List.length_cons, List.length_nil, List.replicate_succ, List.replicate_zero, Nat.reduceAdd, Nat.reduceSub, Nat.reduceLeDiff, Nat.reduceLT, Nat.reduceEqDiff, Nat.reduceMul, Nat.zero_add, Nat.add_zero, Nat.le_refl, Nat.zero_le, Int.reduceEq, Int.reduceToNat, Int.toNat_natCast, Int.reduceNeg, Int.reduceAdd, Int.reduceSub, Int.reduceMul, Int.reduceLT, Int.reduceLE, Int.reduceDiv, Int.reduceMod, Bool.false_eq_true, ↓reduceIte, true_and, and_true, implies_true, forall_const, true_or, or_true, or_false, false_or, not_true_eq_false, not_false_eq_true, false_implies, Prod.mk.injEq, Fin.val_zero, Fin.val_one, Fin.isValue, Fin.reduceFinMk, Fin.val_two, mR_uI, mK_uI, mN_uI, mI_uR, mK_uR, mN_uR, mR_uC, mK_uC, mN_uC, Option.some.injEq, Sum.inl.injEq, Sum.inr.injEq, decide_true, decide_false, Bool.or_false, Bool.false_or, Bool.or_true, Bool.true_or, Nat.reduceBEq, beq_self_eq_true, show tb 143 = tb_143 from rfl, tb_143, tb_143_0, tb_143_1, tb_143_2, tb_143_3, tb_143_4, tb_143_5, tb_143_6, pfb, pfb_b, pfb_c, pfb_v, pfa_b, pfa_c, pfa_v, hs1.mr1, hs1.mr2, hs1.mr3, hs1.mr4, hs1.mr5, hs1.mr14, hs1.mr15, hs1.mr16, hs1.mr18, hs1.mr19, hs1.mr20, hs1.mr21, hs1.mr22, hs1.mr23, hs1.mk521, hs1.mk522, hs1.mn522, hs1.mk523, hs1.mn523, hs1.mk524, hs1.mn524, hs1.mk525, hs1.mn525, hs1.mk526, hs1.mn526, hs1.mk527, hs1.mn527, hs1.mk528, hs1.mn528, hs1.mk529, hs1.mn529, hs1.mk530, hs1.mn530, hs1.mk531, hs1.mn531, hs1.mk532, hs1.mn532, hs1.mk533, hs1.mn533, hs1.mk534, hs1.mn534, hs1.mk535, hs1.mn535, hs1, s2]
          (repeat' (first | with_reducible apply And.intro | with_reducible intro _)) <;> (try omega)
          all_goals exact hn
        · rw [if_neg r1] at hfull
          by_cases r2 : rk o a.2 < rk o (b.2 + f)
          · rw [if_pos r2] at hfull
            have hneq : ¬ a.2 = b.2 + f := fun e => by rw [e] at r2; omega
            have hm9 := m31a 0 m b.1
            have hn := step i (j + 1) (a :: A') B' ((0 + (31 - b.1 * m % 31)) % 31) (b.2 + f) a.2 (b.2 + f) 0 1 (hA.trans hAc) hi p2 (by omega) (by rw [List.length_cons]; omega) (by omega) (by rw [hfull, hm9]) (Or.inl rfl) (Or.inr rfl) (by rw [if_pos rfl]) (by omega) (by omega) (by omega)
            refine G_w (pfb_ok X) LK_143 (fun i => i == 51 || i == 155) 120 _ _ _ _ ?_
            simp only [f_0, f_s, f_iconst, f_bipush, f_sipush, f_ldc, f_ldc_w, f_ldc2_w, f_ldI, f_ldL, f_ldA, f_iload, f_iload_n, f_lload, f_lload_n, f_aload, f_aload_n, f_istore, f_istore_n, f_lstore, f_lstore_n, f_astore, f_astore_n, f_iinc, f_icI, f_iadd, f_isub, f_imul, f_idiv, f_irem, f_iand, f_ior, f_ixor, f_ishl, f_ishr, f_iushr, f_i2l, f_i2b, f_i2s, f_ladd, f_lmul, f_lcmp, f_dupI, f_dupR, f_dup2, f_pop, f_goto, f_if, f_icmp, f_tab, f_ts0, f_ts1, f_getI, f_getZ, f_getR, f_putI, f_putR, f_gets, f_iald, f_bald, f_aald, f_iast, f_bast, f_aast, f_alen, f_new, f_newa, f_anew, f_virt, f_stat0, f_stat1, f_spec0, f_spec1, f_spec9, f_copy, f_max, f_min, f_cV1, f_cV0, f_cS1, f_cS0, f_iret, f_lret, f_vret, f_kG, pf0, cIg, inR, lget, lset, lset2, clr, entL, cnd, psh, catS, tsw, List.take_succ_cons, List.take_zero, List.drop_succ_cons, List.drop_zero, List.reverse_cons, List.reverse_nil, List.nil_append, List.cons_append, List.length_cons, List.length_nil, List.replicate_succ, List.replicate_zero, Nat.reduceAdd, Nat.reduceSub, Nat.reduceLeDiff, Nat.reduceLT, Nat.reduceEqDiff, Nat.reduceMul, Nat.zero_add, Nat.add_zero, Nat.le_refl, Nat.zero_le, Int.reduceEq, Int.reduceToNat, Int.toNat_natCast, Int.reduceNeg, Int.reduceAdd, Int.reduceSub, Int.reduceMul, Int.reduceLT, Int.reduceLE, Int.reduceDiv, Int.reduceMod, Bool.false_eq_true, ↓reduceIte, true_and, and_true, implies_true, forall_const, true_or, or_true, or_false, false_or, not_true_eq_false, not_false_eq_true, false_implies, Prod.mk.injEq, Fin.val_zero, Fin.val_one, Fin.isValue, Fin.reduceFinMk, Fin.val_two, mR_uI, mK_uI, mN_uI, mI_uR, mK_uR, mN_uR, mR_uC, mK_uC, mN_uC, Option.some.injEq, Sum.inl.injEq, Sum.inr.injEq, decide_true, decide_false, Bool.or_false, Bool.false_or, Bool.or_true, Bool.true_or, Nat.reduceBEq, beq_self_eq_true, show tb 143 = tb_143 from rfl, tb_143, tb_143_0, tb_143_1, tb_143_2, tb_143_3, tb_143_4, tb_143_5, tb_143_6, pfb, pfb_b, pfb_c, pfb_v, pfa_b, pfa_c, pfa_v, hs1.mr1, hs1.mr2, hs1.mr3, hs1.mr4, hs1.mr5, hs1.mr14, hs1.mr15, hs1.mr16, hs1.mr18, hs1.mr19, hs1.mr20, hs1.mr21, hs1.mr22, hs1.mr23, hs1.mk521, hs1.mk522, hs1.mn522, hs1.mk523, hs1.mn523, hs1.mk524, hs1.mn524, hs1.mk525, hs1.mn525, hs1.mk526, hs1.mn526, hs1.mk527, hs1.mn527, hs1.mk528, hs1.mn528, hs1.mk529, hs1.mn529, hs1.mk530, hs1.mn530, hs1.mk531, hs1.mn531, hs1.mk532, hs1.mn532, hs1.mk533, hs1.mn533, hs1.mk534, hs1.mn534, hs1.mk535, hs1.mn535, hs1, l1, e8, hlt, hge, hge2, s1, s2, c1, c2, hnea, hneb, hneq]
            refine ⟨by omega, by omega, by omega, by omega, ?_⟩
            refine Ev_mono (e_isAhead X M1 a.2 (b.2 + f) hs1 oka.2 prb (by rw [o1]; exact ho2)) (fun r M2 hr _ _ => ?_)
            obtain ⟨rfl, hM2⟩ := hr
            rw [o1, if_neg (by omega)]
            subst hM2
            simp only [f_kG, psh, Nat.reduceAdd]
            refine G_w (pfb_ok X) LK_143 (fun i => i == 51 || i == 155) 120 _ _ _ _ ?_
            simp only [f_0, f_s, f_iconst, f_bipush, f_sipush, f_ldc, f_ldc_w, f_ldc2_w, f_ldI, f_ldL, f_ldA, f_iload, f_iload_n, f_lload, f_lload_n, f_aload, f_aload_n, f_istore, f_istore_n, f_lstore, f_lstore_n, f_astore, f_astore_n, f_iinc, f_icI, f_iadd, f_isub, f_imul, f_idiv, f_irem, f_iand, f_ior, f_ixor, f_ishl, f_ishr, f_iushr, f_i2l, f_i2b, f_i2s, f_ladd, f_lmul, f_lcmp, f_dupI, f_dupR, f_dup2, f_pop, f_goto, f_if, f_icmp, f_tab, f_ts0, f_ts1, f_getI, f_getZ, f_getR, f_putI, f_putR, f_gets, f_iald, f_bald, f_aald, f_iast, f_bast, f_aast, f_alen, f_new, f_newa, f_anew, f_virt, f_stat0, f_stat1, f_spec0, f_spec1, f_spec9, f_copy, f_max, f_min, f_cV1, f_cV0, f_cS1, f_cS0, f_iret, f_lret, f_vret, f_kG, pf0, cIg, inR, lget, lset, lset2, clr, entL, cnd, psh, catS, tsw, List.take_succ_cons, List.take_zero, List.drop_succ_cons, List.drop_zero, List.reverse_cons, List.reverse_nil, List.nil_append, List.cons_append, List.length_cons, List.length_nil, List.replicate_succ, List.replicate_zero, Nat.reduceAdd, Nat.reduceSub, Nat.reduceLeDiff, Nat.reduceLT, Nat.reduceEqDiff, Nat.reduceMul, Nat.zero_add, Nat.add_zero, Nat.le_refl, Nat.zero_le, Int.reduceEq, Int.reduceToNat, Int.toNat_natCast, Int.reduceNeg, Int.reduceAdd, Int.reduceSub, Int.reduceMul, Int.reduceLT, Int.reduceLE, Int.reduceDiv, Int.reduceMod, Bool.false_eq_true, ↓reduceIte, true_and, and_true, implies_true, forall_const, true_or, or_true, or_false, false_or, not_true_eq_false, not_false_eq_true, false_implies, Prod.mk.injEq, Fin.val_zero, Fin.val_one, Fin.isValue, Fin.reduceFinMk, Fin.val_two, mR_uI, mK_uI, mN_uI, mI_uR, mK_uR, mN_uR, mR_uC, mK_uC, mN_uC, Option.some.injEq, Sum.inl.injEq, Sum.inr.injEq, decide_true, decide_false, Bool.or_false, Bool.false_or, Bool.or_true, Bool.true_or, Nat.reduceBEq, beq_self_eq_true, show tb 143 = tb_143 from rfl, tb_143, tb_143_0, tb_143_1, tb_143_2, tb_143_3, tb_143_4, tb_143_5, tb_143_6, pfb, pfb_b, pfb_c, pfb_v, pfa_b, pfa_c, pfa_v, hs1.mr1, hs1.mr2, hs1.mr3, hs1.mr4, hs1.mr5, hs1.mr14, hs1.mr15, hs1.mr16, hs1.mr18, hs1.mr19, hs1.mr20, hs1.mr21, hs1.mr22, hs1.mr23, hs1.mk521, hs1.mk522, hs1.mn522, hs1.mk523, hs1.mn523, hs1.mk524, hs1.mn524, hs1.mk525, hs1.mn525, hs1.mk526, hs1.mn526, hs1.mk527, hs1.mn527, hs1.mk528, hs1.mn528, hs1.mk529, hs1.mn529, hs1.mk530, hs1.mn530, hs1.mk531, hs1.mn531, hs1.mk532, hs1.mn532, hs1.mk533, hs1.mn533, hs1.mk534, hs1.mn534, hs1.mk535, hs1.mn535, hs1, hnea, hneb, hneq]
            refine Ev_mono (e_isAhead X M2 (b.2 + f) a.2 hs1 prb oka.2 (by rw [o1]; exact ho2)) (fun r M3 hr _ _ => ?_)
            obtain ⟨rfl, hM3⟩ := hr
            rw [o1, if_pos r2]
            subst hM3
            simp only [f_kG, psh, Nat.reduceAdd]
            refine G_w (pfb_ok X) LK_143 (fun i => i == 51 || i == 155) 120 _ _ _ _ ?_
            simp only [f_0, f_s, f_iconst, f_bipush, f_sipush, f_ldc, f_ldc_w, f_ldc2_w, f_ldI, f_ldL, f_ldA, f_iload, f_iload_n, f_lload, f_lload_n, f_aload, f_aload_n, f_istore, f_istore_n, f_lstore, f_lstore_n, f_astore, f_astore_n, f_iinc, f_icI, f_iadd, f_isub, f_imul, f_idiv, f_irem, f_iand, f_ior, f_ixor, f_ishl, f_ishr, f_iushr, f_i2l, f_i2b, f_i2s, f_ladd, f_lmul, f_lcmp, f_dupI, f_dupR, f_dup2, f_pop, f_goto, f_if, f_icmp, f_tab, f_ts0, f_ts1, f_getI, f_getZ, f_getR, f_putI, f_putR, f_gets, f_iald, f_bald, f_aald, f_iast, f_bast, f_aast, f_alen, f_new, f_newa, f_anew, f_virt, f_stat0, f_stat1, f_spec0, f_spec1, f_spec9, f_copy, f_max, f_min, f_cV1, f_cV0, f_cS1, f_cS0, f_iret, f_lret, f_vret, f_kG, pf0, cIg, inR, lget, lset, lset2, clr, entL, cnd, psh, catS, tsw, List.take_succ_cons, List.take_zero, List.drop_succ_cons, List.drop_zero, List.reverse_cons, List.reverse_nil, List.nil_append, List.cons_append, List.length_cons, List.length_nil, List.replicate_succ, List.replicate_zero, Nat.reduceAdd, Nat.reduceSub, Nat.reduceLeDiff, Nat.reduceLT, Nat.reduceEqDiff, Nat.reduceMul, Nat.zero_add, Nat.add_zero, Nat.le_refl, Nat.zero_le, Int.reduceEq, Int.reduceToNat, Int.toNat_natCast, Int.reduceNeg, Int.reduceAdd, Int.reduceSub, Int.reduceMul, Int.reduceLT, Int.reduceLE, Int.reduceDiv, Int.reduceMod, Bool.false_eq_true, ↓reduceIte, true_and, and_true, implies_true, forall_const, true_or, or_true, or_false, false_or, not_true_eq_false, not_false_eq_true, false_implies, Prod.mk.injEq, Fin.val_zero, Fin.val_one, Fin.isValue, Fin.reduceFinMk, Fin.val_two, mR_uI, mK_uI, mN_uI, mI_uR, mK_uR, mN_uR, mR_uC, mK_uC, mN_uC, Option.some.injEq, Sum.inl.injEq, Sum.inr.injEq, decide_true, decide_false, Bool.or_false, Bool.false_or, Bool.or_true, Bool.true_or, Nat.reduceBEq, beq_self_eq_true, show tb 143 = tb_143 from rfl, tb_143, tb_143_0, tb_143_1, tb_143_2, tb_143_3, tb_143_4, tb_143_5, tb_143_6, pfb, pfb_b, pfb_c, pfb_v, pfa_b, pfa_c, pfa_v, hs1.mr1, hs1.mr2, hs1.mr3, hs1.mr4, hs1.mr5, hs1.mr14, hs1.mr15, hs1.mr16, hs1.mr18, hs1.mr19, hs1.mr20, hs1.mr21, hs1.mr22, hs1.mr23, hs1.mk521, hs1.mk522, hs1.mn522, hs1.mk523, hs1.mn523, hs1.mk524, hs1.mn524, hs1.mk525, hs1.mn525, hs1.mk526, hs1.mn526, hs1.mk527, hs1.mn527, hs1.mk528, hs1.mn528, hs1.mk529, hs1.mn529, hs1.mk530, hs1.mn530, hs1.mk531, hs1.mn531, hs1.mk532, hs1.mn532, hs1.mk533, hs1.mn533, hs1.mk534, hs1.mn534, hs1.mk535, hs1.mn535, hs1, l1, e8, c1, c3]
            (repeat' (first | with_reducible apply And.intro | with_reducible intro _)) <;> (try omega)
            all_goals exact hn
          · rw [if_neg r2] at hfull
            have heq : a.2 = b.2 + f := rk_inj (o := o) oka.2 prb (by omega)
            have hm9 := m31a a.1 m b.1
            have hn := step (i + 1) (j + 1) A' B' ((a.1 + (31 - b.1 * m % 31)) % 31) a.2 a.2 (b.2 + f) 1 1 q2 (by omega) p2 (by omega) (by omega) (by omega) (by rw [hfull, hm9]) (Or.inr rfl) (Or.inr rfl) (by rw [if_neg (by omega)]) (by omega) (by omega) (by omega)
            rw [← heq] at hn hneb
            refine G_w (pfb_ok X) LK_143 (fun i => i == 51 || i == 155) 120 _ _ _ _ ?_
            simp only [f_0, f_s, f_iconst, f_bipush, f_sipush, f_ldc, f_ldc_w, f_ldc2_w, f_ldI, f_ldL, f_ldA, f_iload, f_iload_n, f_lload, f_lload_n, f_aload, f_aload_n, f_istore, f_istore_n, f_lstore, f_lstore_n, f_astore, f_astore_n, f_iinc, f_icI, f_iadd, f_isub, f_imul, f_idiv, f_irem, f_iand, f_ior, f_ixor, f_ishl, f_ishr, f_iushr, f_i2l, f_i2b, f_i2s, f_ladd, f_lmul, f_lcmp, f_dupI, f_dupR, f_dup2, f_pop, f_goto, f_if, f_icmp, f_tab, f_ts0, f_ts1, f_getI, f_getZ, f_getR, f_putI, f_putR, f_gets, f_iald, f_bald, f_aald, f_iast, f_bast, f_aast, f_alen, f_new, f_newa, f_anew, f_virt, f_stat0, f_stat1, f_spec0, f_spec1, f_spec9, f_copy, f_max, f_min, f_cV1, f_cV0, f_cS1, f_cS0, f_iret, f_lret, f_vret, f_kG, pf0, cIg, inR, lget, lset, lset2, clr, entL, cnd, psh, catS, tsw, List.take_succ_cons, List.take_zero, List.drop_succ_cons, List.drop_zero, List.reverse_cons, List.reverse_nil, List.nil_append, List.cons_append, List.length_cons, List.length_nil, List.replicate_succ, List.replicate_zero, Nat.reduceAdd, Nat.reduceSub, Nat.reduceLeDiff, Nat.reduceLT, Nat.reduceEqDiff, Nat.reduceMul, Nat.zero_add, Nat.add_zero, Nat.le_refl, Nat.zero_le, Int.reduceEq, Int.reduceToNat, Int.toNat_natCast, Int.reduceNeg, Int.reduceAdd, Int.reduceSub, Int.reduceMul, Int.reduceLT, Int.reduceLE, Int.reduceDiv, Int.reduceMod, Bool.false_eq_true, ↓reduceIte, true_and, and_true, implies_true, forall_const, true_or, or_true, or_false, false_or, not_true_eq_false, not_false_eq_true, false_implies, Prod.mk.injEq, Fin.val_zero, Fin.val_one, Fin.isValue, Fin.reduceFinMk, Fin.val_two, mR_uI, mK_uI, mN_uI, mI_uR, mK_uR, mN_uR, mR_uC, mK_uC, mN_uC, Option.some.injEq, Sum.inl.injEq, Sum.inr.injEq, decide_true, decide_false, Bool.or_false, Bool.false_or, Bool.or_true, Bool.true_or, Nat.reduceBEq, beq_self_eq_true, show tb 143 = tb_143 from rfl, tb_143, tb_143_0, tb_143_1, tb_143_2, tb_143_3, tb_143_4, tb_143_5, tb_143_6, pfb, pfb_b, pfb_c, pfb_v, pfa_b, pfa_c, pfa_v, hs1.mr1, hs1.mr2, hs1.mr3, hs1.mr4, hs1.mr5, hs1.mr14, hs1.mr15, hs1.mr16, hs1.mr18, hs1.mr19, hs1.mr20, hs1.mr21, hs1.mr22, hs1.mr23, hs1.mk521, hs1.mk522, hs1.mn522, hs1.mk523, hs1.mn523, hs1.mk524, hs1.mn524, hs1.mk525, hs1.mn525, hs1.mk526, hs1.mn526, hs1.mk527, hs1.mn527, hs1.mk528, hs1.mn528, hs1.mk529, hs1.mn529, hs1.mk530, hs1.mn530, hs1.mk531, hs1.mn531, hs1.mk532, hs1.mn532, hs1.mk533, hs1.mn533, hs1.mk534, hs1.mn534, hs1.mk535, hs1.mn535, hs1, l1, e8, hlt, hge, hge2, s1, s2, c1, c2, c3, hnea, ← heq]
            (repeat' (first | with_reducible apply And.intro | with_reducible intro _)) <;> (try omega)
            all_goals exact hn
