/-! the reference's texts change -/
def Qn (M : Mem) (res : Int × St) (r : Option AV) (M' : Mem) : Prop := r = some (aI res.1) ∧ MI M' res.2 ∧ MM M M'
abbrev F7 : Nat → Prop := fun k => k = 7
abbrev C45 : Nat → Prop := fun a => a = 524 ∨ a = 525
theorem MI.txt {M M1 : Mem} {s : St} {t : Nat} {B : List Int} (ht : t < 8) (hM : MI M s) (hF : Fr M M1 NN F7 C45) (h7 : mI M1 521 7 = 0) (hB : TB M1 t B) (hr : B.length ≤ roomT t) (ho : ∀ u, u < 8 → u ≠ t → TB M1 u (s.1 u)) : MI M1 (setT s.1 t B, s.2) ∧ MM M M1 := by
  obtain ⟨hs, hX, h01, hK, hS, h24⟩ := hM
  refine ⟨⟨hF.shp hs, fun u hu => ?_, Or.inl h7, fun h => by omega, fun i hi => (hS i hi).fr hF (by omega), (hF.2.1 24 (by omega)).trans h24⟩, hF.mm⟩
  by_cases h9 : u = t
  · subst h9
    show TB M1 u (setT s.1 u B u) ∧ (setT s.1 u B u).length ≤ roomT u
    rw [setT_eq]
    exact ⟨hB, hr⟩
  · show TB M1 u (setT s.1 t B u) ∧ (setT s.1 t B u).length ≤ roomT u
    rw [setT_ne h9]
    exact ⟨ho u hu h9, (hX u hu).2⟩
set_option maxRecDepth 100000 in
set_option maxHeartbeats 4000000 in
theorem e_mtype (X : CX) (M : Mem) (s : St) (t b : Int) (hM : MI M s) : Ev X y_m_type (0, 0) [aR (some 521), aI t, aI b] M (Qn M (aType s t b)) := by
  have hs := hM.1
  unfold aType
  by_cases h : 0 ≤ t ∧ t ≤ 7
  · have hif : (if 0 ≤ t ∧ t ≤ 7 then (1 : Int) else 0) = 1 := if_pos h
    rw [if_pos (show 0 ≤ t ∧ t < 8 by omega)]
    by_cases h2 : 0 ≤ b ∧ b ≤ 255
    · have hif2 : (if 0 ≤ b ∧ b ≤ 255 then (1 : Int) else 0) = 1 := if_pos h2
      rw [if_pos (show 0 ≤ b ∧ b < 256 by omega)]
      obtain ⟨m, rfl⟩ := Int.eq_ofNat_of_zero_le h.1
      rw [Int.toNat_natCast]
      obtain ⟨⟨t1, t2, t3, t4⟩, t5⟩ := hM.2.1 m (by omega)
      have hrm : (if (m : Int) = 7 then (3 : Int) else 30) = (roomT m : Int) := by
        unfold roomT
        by_cases h7 : m = 7
        · rw [if_pos h7, if_pos (by omega)]; rfl
        · rw [if_neg h7, if_neg (by omega)]; rfl
      have hroom : roomT m ≤ 30 := by unfold roomT; split <;> omega
      by_cases hf : ((s.1 m).length : Int) = (roomT m : Int)
      · rw [if_pos (by omega)]
        refine Ev_of mcd_107 mok_107 (by decide) rfl (Nat.le_of_ble_eq_true rfl) ?_
        rw [show yl 107 = 3 from rfl]
        refine G_w (pfb_ok X) LK_107 (fun i => false) 30 _ _ _ _ ?_
        simp only [f_0, f_s, f_iconst, f_bipush, f_sipush, f_ldc, f_ldc_w, f_ldc2_w, f_ldI, f_ldL, f_ldA, f_iload, f_iload_n, f_lload, f_lload_n, f_aload, f_aload_n, f_istore, f_istore_n, f_lstore, f_lstore_n, f_astore, f_astore_n, f_iinc, f_icI, f_iadd, f_isub, f_imul, f_idiv, f_irem, f_iand, f_ior, f_ixor, f_ishl, f_ishr, f_iushr, f_i2l, f_i2b, f_i2s, f_ladd, f_lmul, f_lcmp, f_dupI, f_dupR, f_dup2, f_pop, f_goto, f_if, f_icmp, f_tab, f_ts0, f_ts1, f_getI, f_getZ, f_getR, f_putI, f_putR, f_gets, f_iald, f_bald, f_aald, f_iast, f_bast, f_aast, f_alen, f_new, f_newa, f_anew, f_virt, f_stat0, f_stat1, f_spec0, f_spec1, f_spec9, f_copy, f_max, f_min, f_cV1, f_cV0, f_cS1, f_cS0, f_iret, f_lret, f_vret, f_kG, pf0, cIg, inR, lget, lset, lset2, clr, entL, cnd, psh, catS, tsw, List.take_succ_cons, List.take_zero, List.drop_succ_cons, List.drop_zero, List.reverse_cons, List.reverse_nil, List.nil_append, List.cons_append, List.length_cons, List.length_nil, List.replicate_succ, List.replicate_zero, Nat.reduceAdd, Nat.reduceSub, Nat.reduceLeDiff, Nat.reduceLT, Nat.reduceEqDiff, Nat.reduceMul, Nat.zero_add, Nat.add_zero, Nat.le_refl, Nat.zero_le, Int.reduceEq, Int.reduceToNat, Int.toNat_natCast, Int.reduceNeg, Int.reduceAdd, Int.reduceSub, Int.reduceMul, Int.reduceLT, Int.reduceLE, Int.reduceDiv, Int.reduceMod, Bool.false_eq_true, ↓reduceIte, true_and, and_true, implies_true, forall_const, true_or, or_true, or_false, false_or, not_true_eq_false, not_false_eq_true, false_implies, Prod.mk.injEq, Fin.val_zero, Fin.val_one, Fin.isValue, Fin.reduceFinMk, Fin.val_two, mR_uI, mK_uI, mN_uI, mI_uR, mK_uR, mN_uR, mR_uC, mK_uC, mN_uC, Option.some.injEq, Sum.inl.injEq, Sum.inr.injEq, decide_true, decide_false, Bool.or_false, Bool.false_or, Bool.or_true, Bool.true_or, Nat.reduceBEq, beq_self_eq_true, show tb 107 = tb_107 from rfl, tb_107, tb_107_0, tb_107_1, pfb, pfb_b, pfb_c, pfb_v, pfa_b, pfa_c, pfa_v, hif, hif2, hs.mr1, hs.mr2, hs.mr3, hs.mr4, hs.mr5, hs.mr14, hs.mr15, hs.mr16, hs.mr18, hs.mr19, hs.mr20, hs.mr21, hs.mr22, hs.mr23, hs.mk521, hs.mk522, hs.mn522, hs.mk523, hs.mn523, hs.mk524, hs.mn524, hs.mk525, hs.mn525, hs.mk526, hs.mn526, hs.mk527, hs.mn527, hs.mk528, hs.mn528, hs.mk529, hs.mn529, hs.mk530, hs.mn530, hs.mk531, hs.mn531, hs.mk532, hs.mn532, hs.mk533, hs.mn533, hs.mk534, hs.mn534, hs.mk535, hs.mn535, t1, hrm, hf]
        exact ⟨by omega, rfl, hM, Same.rf _ _⟩
      · rw [if_neg (by omega)]
        have e1 : ((30 : Int) * (m : Int) + ((s.1 m).length : Int)).toNat = 30 * m + (s.1 m).length := by omega
        have c1 : mI (uI M 525 (30 * m + (s.1 m).length) b) 524 m = (s.1 m).length := (mI_uI_ne (by omega)).trans t1
        have c2 : mI (uI (uI (uI M 525 (30 * m + (s.1 m).length) b) 524 m ((s.1 m).length + 1)) 521 7 0) 524 m = (s.1 m).length + 1 := (mI_uI_ne (by omega)).trans mI_uI_eq
        refine Ev_of mcd_107 mok_107 (by decide) rfl (Nat.le_of_ble_eq_true rfl) ?_
        rw [show yl 107 = 3 from rfl]
        refine G_w (pfb_ok X) LK_107 (fun i => false) 50 _ _ _ _ ?_
        simp only [f_0, f_s, f_iconst, f_bipush, f_sipush, f_ldc, f_ldc_w, f_ldc2_w, f_ldI, f_ldL, f_ldA, f_iload, f_iload_n, f_lload, f_lload_n, f_aload, f_aload_n, f_istore, f_istore_n, f_lstore, f_lstore_n, f_astore, f_astore_n, f_iinc, f_icI, f_iadd, f_isub, f_imul, f_idiv, f_irem, f_iand, f_ior, f_ixor, f_ishl, f_ishr, f_iushr, f_i2l, f_i2b, f_i2s, f_ladd, f_lmul, f_lcmp, f_dupI, f_dupR, f_dup2, f_pop, f_goto, f_if, f_icmp, f_tab, f_ts0, f_ts1, f_getI, f_getZ, f_getR, f_putI, f_putR, f_gets, f_iald, f_bald, f_aald, f_iast, f_bast, f_aast, f_alen, f_new, f_newa, f_anew, f_virt, f_stat0, f_stat1, f_spec0, f_spec1, f_spec9, f_copy, f_max, f_min, f_cV1, f_cV0, f_cS1, f_cS0, f_iret, f_lret, f_vret, f_kG, pf0, cIg, inR, lget, lset, lset2, clr, entL, cnd, psh, catS, tsw, List.take_succ_cons, List.take_zero, List.drop_succ_cons, List.drop_zero, List.reverse_cons, List.reverse_nil, List.nil_append, List.cons_append, List.length_cons, List.length_nil, List.replicate_succ, List.replicate_zero, Nat.reduceAdd, Nat.reduceSub, Nat.reduceLeDiff, Nat.reduceLT, Nat.reduceEqDiff, Nat.reduceMul, Nat.zero_add, Nat.add_zero, Nat.le_refl, Nat.zero_le, Int.reduceEq, Int.reduceToNat, Int.toNat_natCast, Int.reduceNeg, Int.reduceAdd, Int.reduceSub, Int.reduceMul, Int.reduceLT, Int.reduceLE, Int.reduceDiv, Int.reduceMod, Bool.false_eq_true, ↓reduceIte, true_and, and_true, implies_true, forall_const, true_or, or_true, or_false, false_or, not_true_eq_false, not_false_eq_true, false_implies, Prod.mk.injEq, Fin.val_zero, Fin.val_one, Fin.isValue, Fin.reduceFinMk, Fin.val_two, mR_uI, mK_uI, mN_uI, mI_uR, mK_uR, mN_uR, mR_uC, mK_uC, mN_uC, Option.some.injEq, Sum.inl.injEq, Sum.inr.injEq, decide_true, decide_false, Bool.or_false, Bool.false_or, Bool.or_true, Bool.true_or, Nat.reduceBEq, beq_self_eq_true, show tb 107 = tb_107 from rfl, tb_107, tb_107_0, tb_107_1, pfb, pfb_b, pfb_c, pfb_v, pfa_b, pfa_c, pfa_v, hif, hif2, hs.mr1, hs.mr2, hs.mr3, hs.mr4, hs.mr5, hs.mr14, hs.mr15, hs.mr16, hs.mr18, hs.mr19, hs.mr20, hs.mr21, hs.mr22, hs.mr23, hs.mk521, hs.mk522, hs.mn522, hs.mk523, hs.mn523, hs.mk524, hs.mn524, hs.mk525, hs.mn525, hs.mk526, hs.mn526, hs.mk527, hs.mn527, hs.mk528, hs.mn528, hs.mk529, hs.mn529, hs.mk530, hs.mn530, hs.mk531, hs.mn531, hs.mk532, hs.mn532, hs.mk533, hs.mn533, hs.mk534, hs.mn534, hs.mk535, hs.mn535, t1, hrm, hf, e1, c1, c2]
        have hF : Fr M (uI (uI (uI M 525 (30 * m + (s.1 m).length) b) 524 m ((s.1 m).length + 1)) 521 7 0) NN F7 C45 := Fr.uf (F := F7) (((Fr.rf M NN F7 C45).uc (Or.inr rfl) (by omega)).uc (Or.inl rfl) (by omega)) rfl
        have hx := MI.txt (B := s.1 m ++ [b]) (show m < 8 by omega) hM hF mI_uI_eq ⟨by rw [c2, List.length_append]; rfl, fun j c hc => by
            rw [mI_uI_ne (by omega), mI_uI_ne (by omega)]
            by_cases hj : j < (s.1 m).length
            · rw [List.getElem?_append_left hj] at hc
              rw [mI_uI_nk (by omega)]
              exact t2 j c hc
            · have hj2 := (List.getElem?_eq_some_iff.mp hc).1
              rw [List.length_append, List.length_singleton] at hj2
              have hj3 : j = (s.1 m).length := by omega
              subst hj3
              rw [List.getElem?_append_right (Nat.le_refl _), Nat.sub_self, List.getElem?_cons_zero, Option.some.injEq] at hc
              subst hc
              exact mI_uI_eq, by rw [List.length_append, List.length_singleton]; omega, fun c hc => by
            rcases List.mem_append.mp hc with h9 | h9
            · exact t4 c h9
            · rw [List.mem_singleton.mp h9]; omega⟩ (by rw [List.length_append, List.length_singleton]; omega) (fun u hu hne => by
          obtain ⟨⟨u1, u2, u3, u4⟩, u5⟩ := hM.2.1 u hu
          refine ⟨by rw [mI_uI_ne (by omega), mI_uI_nk hne, mI_uI_ne (by omega)]; exact u1, fun j c hc => ?_, u3, u4⟩
          have hj := (List.getElem?_eq_some_iff.mp hc).1
          rw [mI_uI_ne (by omega), mI_uI_ne (by omega), mI_uI_nk (by omega)]
          exact u2 j c hc)
        have hfin : Qn M (((s.1 m).length : Int) + 1, (setT s.1 m (s.1 m ++ [b]), s.2)) (some (aI (((s.1 m).length : Int) + 1))) (uI (uI (uI M 525 (30 * m + (s.1 m).length) b) 524 m ((s.1 m).length + 1)) 521 7 0) := ⟨rfl, hx.1, hx.2⟩
        (repeat' (first | with_reducible apply And.intro | with_reducible intro _)) <;> (try omega)
        all_goals exact hfin
    · have hif2 : (if 0 ≤ b ∧ b ≤ 255 then (1 : Int) else 0) = 0 := if_neg h2
      rw [if_neg (show ¬ (0 ≤ b ∧ b < 256) by omega)]
      refine Ev_of mcd_107 mok_107 (by decide) rfl (Nat.le_of_ble_eq_true rfl) ?_
      rw [show yl 107 = 3 from rfl]
      refine G_w (pfb_ok X) LK_107 (fun i => false) 30 _ _ _ _ ?_
      simp only [f_0, f_s, f_iconst, f_bipush, f_sipush, f_ldc, f_ldc_w, f_ldc2_w, f_ldI, f_ldL, f_ldA, f_iload, f_iload_n, f_lload, f_lload_n, f_aload, f_aload_n, f_istore, f_istore_n, f_lstore, f_lstore_n, f_astore, f_astore_n, f_iinc, f_icI, f_iadd, f_isub, f_imul, f_idiv, f_irem, f_iand, f_ior, f_ixor, f_ishl, f_ishr, f_iushr, f_i2l, f_i2b, f_i2s, f_ladd, f_lmul, f_lcmp, f_dupI, f_dupR, f_dup2, f_pop, f_goto, f_if, f_icmp, f_tab, f_ts0, f_ts1, f_getI, f_getZ, f_getR, f_putI, f_putR, f_gets, f_iald, f_bald, f_aald, f_iast, f_bast, f_aast, f_alen, f_new, f_newa, f_anew, f_virt, f_stat0, f_stat1, f_spec0, f_spec1, f_spec9, f_copy, f_max, f_min, f_cV1, f_cV0, f_cS1, f_cS0, f_iret, f_lret, f_vret, f_kG, pf0, cIg, inR, lget, lset, lset2, clr, entL, cnd, psh, catS, tsw, List.take_succ_cons, List.take_zero, List.drop_succ_cons, List.drop_zero, List.reverse_cons, List.reverse_nil, List.nil_append, List.cons_append, List.length_cons, List.length_nil, List.replicate_succ, List.replicate_zero, Nat.reduceAdd, Nat.reduceSub, Nat.reduceLeDiff, Nat.reduceLT, Nat.reduceEqDiff, Nat.reduceMul, Nat.zero_add, Nat.add_zero, Nat.le_refl, Nat.zero_le, Int.reduceEq, Int.reduceToNat, Int.toNat_natCast, Int.reduceNeg, Int.reduceAdd, Int.reduceSub, Int.reduceMul, Int.reduceLT, Int.reduceLE, Int.reduceDiv, Int.reduceMod, Bool.false_eq_true, ↓reduceIte, true_and, and_true, implies_true, forall_const, true_or, or_true, or_false, false_or, not_true_eq_false, not_false_eq_true, false_implies, Prod.mk.injEq, Fin.val_zero, Fin.val_one, Fin.isValue, Fin.reduceFinMk, Fin.val_two, mR_uI, mK_uI, mN_uI, mI_uR, mK_uR, mN_uR, mR_uC, mK_uC, mN_uC, Option.some.injEq, Sum.inl.injEq, Sum.inr.injEq, decide_true, decide_false, Bool.or_false, Bool.false_or, Bool.or_true, Bool.true_or, Nat.reduceBEq, beq_self_eq_true, show tb 107 = tb_107 from rfl, tb_107, tb_107_0, tb_107_1, pfb, pfb_b, pfb_c, pfb_v, pfa_b, pfa_c, pfa_v, hif, hif2]
      exact ⟨rfl, hM, Same.rf _ _⟩
  · have hif : (if 0 ≤ t ∧ t ≤ 7 then (1 : Int) else 0) = 0 := if_neg h
    rw [if_neg (show ¬ (0 ≤ t ∧ t < 8) by omega)]
    refine Ev_of mcd_107 mok_107 (by decide) rfl (Nat.le_of_ble_eq_true rfl) ?_
    rw [show yl 107 = 3 from rfl]
    refine G_w (pfb_ok X) LK_107 (fun i => false) 30 _ _ _ _ ?_
    simp only [f_0, f_s, f_iconst, f_bipush, f_sipush, f_ldc, f_ldc_w, f_ldc2_w, f_ldI, f_ldL, f_ldA, f_iload, f_iload_n, f_lload, f_lload_n, f_aload, f_aload_n, f_istore, f_istore_n, f_lstore, f_lstore_n, f_astore, f_astore_n, f_iinc, f_icI, f_iadd, f_isub, f_imul, f_idiv, f_irem, f_iand, f_ior, f_ixor, f_ishl, f_ishr, f_iushr, f_i2l, f_i2b, f_i2s, f_ladd, f_lmul, f_lcmp, f_dupI, f_dupR, f_dup2, f_pop, f_goto, f_if, f_icmp, f_tab, f_ts0, f_ts1, f_getI, f_getZ, f_getR, f_putI, f_putR, f_gets, f_iald, f_bald, f_aald, f_iast, f_bast, f_aast, f_alen, f_new, f_newa, f_anew, f_virt, f_stat0, f_stat1, f_spec0, f_spec1, f_spec9, f_copy, f_max, f_min, f_cV1, f_cV0, f_cS1, f_cS0, f_iret, f_lret, f_vret, f_kG, pf0, cIg, inR, lget, lset, lset2, clr, entL, cnd, psh, catS, tsw, List.take_succ_cons, List.take_zero, List.drop_succ_cons, List.drop_zero, List.reverse_cons, List.reverse_nil, List.nil_append, List.cons_append, List.length_cons, List.length_nil, List.replicate_succ, List.replicate_zero, Nat.reduceAdd, Nat.reduceSub, Nat.reduceLeDiff, Nat.reduceLT, Nat.reduceEqDiff, Nat.reduceMul, Nat.zero_add, Nat.add_zero, Nat.le_refl, Nat.zero_le, Int.reduceEq, Int.reduceToNat, Int.toNat_natCast, Int.reduceNeg, Int.reduceAdd, Int.reduceSub, Int.reduceMul, Int.reduceLT, Int.reduceLE, Int.reduceDiv, Int.reduceMod, Bool.false_eq_true, ↓reduceIte, true_and, and_true, implies_true, forall_const, true_or, or_true, or_false, false_or, not_true_eq_false, not_false_eq_true, false_implies, Prod.mk.injEq, Fin.val_zero, Fin.val_one, Fin.isValue, Fin.reduceFinMk, Fin.val_two, mR_uI, mK_uI, mN_uI, mI_uR, mK_uR, mN_uR, mR_uC, mK_uC, mN_uC, Option.some.injEq, Sum.inl.injEq, Sum.inr.injEq, decide_true, decide_false, Bool.or_false, Bool.false_or, Bool.or_true, Bool.true_or, Nat.reduceBEq, beq_self_eq_true, show tb 107 = tb_107 from rfl, tb_107, tb_107_0, tb_107_1, pfb, pfb_b, pfb_c, pfb_v, pfa_b, pfa_c, pfa_v, hif]
    exact ⟨rfl, hM, Same.rf _ _⟩
set_option maxRecDepth 100000 in
set_option maxHeartbeats 4000000 in
theorem e_mwipe (X : CX) (M : Mem) (s : St) (t : Int) (hM : MI M s) : Ev X y_m_wipe (0, 0) [aR (some 521), aI t] M (Qn M (aWipe s t)) := by
  have hs := hM.1
  unfold aWipe
  by_cases h : 0 ≤ t ∧ t ≤ 7
  · have hif : (if 0 ≤ t ∧ t ≤ 7 then (1 : Int) else 0) = 1 := if_pos h
    rw [if_pos (show 0 ≤ t ∧ t < 8 by omega)]
    obtain ⟨m, rfl⟩ := Int.eq_ofNat_of_zero_le h.1
    rw [Int.toNat_natCast]
    obtain ⟨⟨t1, t2, t3, t4⟩, t5⟩ := hM.2.1 m (by omega)
    refine Ev_of mcd_111 mok_111 (by decide) rfl (Nat.le_of_ble_eq_true rfl) ?_
    rw [show yl 111 = 3 from rfl]
    refine G_w (pfb_ok X) LK_111 (fun i => false) 30 _ _ _ _ ?_
    simp only [f_0, f_s, f_iconst, f_bipush, f_sipush, f_ldc, f_ldc_w, f_ldc2_w, f_ldI, f_ldL, f_ldA, f_iload, f_iload_n, f_lload, f_lload_n, f_aload, f_aload_n, f_istore, f_istore_n, f_lstore, f_lstore_n, f_astore, f_astore_n, f_iinc, f_icI, f_iadd, f_isub, f_imul, f_idiv, f_irem, f_iand, f_ior, f_ixor, f_ishl, f_ishr, f_iushr, f_i2l, f_i2b, f_i2s, f_ladd, f_lmul, f_lcmp, f_dupI, f_dupR, f_dup2, f_pop, f_goto, f_if, f_icmp, f_tab, f_ts0, f_ts1, f_getI, f_getZ, f_getR, f_putI, f_putR, f_gets, f_iald, f_bald, f_aald, f_iast, f_bast, f_aast, f_alen, f_new, f_newa, f_anew, f_virt, f_stat0, f_stat1, f_spec0, f_spec1, f_spec9, f_copy, f_max, f_min, f_cV1, f_cV0, f_cS1, f_cS0, f_iret, f_lret, f_vret, f_kG, pf0, cIg, inR, lget, lset, lset2, clr, entL, cnd, psh, catS, tsw, List.take_succ_cons, List.take_zero, List.drop_succ_cons, List.drop_zero, List.reverse_cons, List.reverse_nil, List.nil_append, List.cons_append, List.length_cons, List.length_nil, List.replicate_succ, List.replicate_zero, Nat.reduceAdd, Nat.reduceSub, Nat.reduceLeDiff, Nat.reduceLT, Nat.reduceEqDiff, Nat.reduceMul, Nat.zero_add, Nat.add_zero, Nat.le_refl, Nat.zero_le, Int.reduceEq, Int.reduceToNat, Int.toNat_natCast, Int.reduceNeg, Int.reduceAdd, Int.reduceSub, Int.reduceMul, Int.reduceLT, Int.reduceLE, Int.reduceDiv, Int.reduceMod, Bool.false_eq_true, ↓reduceIte, true_and, and_true, implies_true, forall_const, true_or, or_true, or_false, false_or, not_true_eq_false, not_false_eq_true, false_implies, Prod.mk.injEq, Fin.val_zero, Fin.val_one, Fin.isValue, Fin.reduceFinMk, Fin.val_two, mR_uI, mK_uI, mN_uI, mI_uR, mK_uR, mN_uR, mR_uC, mK_uC, mN_uC, Option.some.injEq, Sum.inl.injEq, Sum.inr.injEq, decide_true, decide_false, Bool.or_false, Bool.false_or, Bool.or_true, Bool.true_or, Nat.reduceBEq, beq_self_eq_true, show tb 111 = tb_111 from rfl, tb_111, tb_111_0, pfb, pfb_b, pfb_c, pfb_v, pfa_b, pfa_c, pfa_v, hif, hs.mr1, hs.mr2, hs.mr3, hs.mr4, hs.mr5, hs.mr14, hs.mr15, hs.mr16, hs.mr18, hs.mr19, hs.mr20, hs.mr21, hs.mr22, hs.mr23, hs.mk521, hs.mk522, hs.mn522, hs.mk523, hs.mn523, hs.mk524, hs.mn524, hs.mk525, hs.mn525, hs.mk526, hs.mn526, hs.mk527, hs.mn527, hs.mk528, hs.mn528, hs.mk529, hs.mn529, hs.mk530, hs.mn530, hs.mk531, hs.mn531, hs.mk532, hs.mn532, hs.mk533, hs.mn533, hs.mk534, hs.mn534, hs.mk535, hs.mn535, t1]
    have hF : Fr M (uI (uI M 524 m 0) 521 7 0) NN F7 C45 := Fr.uf (F := F7) ((Fr.rf M NN F7 C45).uc (Or.inl rfl) (by omega)) rfl
    have hx := MI.txt (B := []) (show m < 8 by omega) hM hF mI_uI_eq ⟨(mI_uI_ne (by omega)).trans mI_uI_eq, fun j c hc => by simp at hc, by simp, fun c hc => by cases hc⟩ (by simp) (fun u hu hne => by
      obtain ⟨⟨u1, u2, u3, u4⟩, u5⟩ := hM.2.1 u hu
      exact ⟨by rw [mI_uI_ne (by omega), mI_uI_nk hne]; exact u1, fun j c hc => by rw [mI_uI_ne (by omega), mI_uI_ne (by omega)]; exact u2 j c hc, u3, u4⟩)
    have hfin : Qn M (((s.1 m).length : Int), (setT s.1 m [], s.2)) (some (aI ((s.1 m).length : Int))) (uI (uI M 524 m 0) 521 7 0) := ⟨rfl, hx.1, hx.2⟩
    (repeat' (first | with_reducible apply And.intro | with_reducible intro _)) <;> (try omega)
    all_goals exact hfin
  · have hif : (if 0 ≤ t ∧ t ≤ 7 then (1 : Int) else 0) = 0 := if_neg h
    rw [if_neg (show ¬ (0 ≤ t ∧ t < 8) by omega)]
    refine Ev_of mcd_111 mok_111 (by decide) rfl (Nat.le_of_ble_eq_true rfl) ?_
    rw [show yl 111 = 3 from rfl]
    refine G_w (pfb_ok X) LK_111 (fun i => false) 30 _ _ _ _ ?_
    simp only [f_0, f_s, f_iconst, f_bipush, f_sipush, f_ldc, f_ldc_w, f_ldc2_w, f_ldI, f_ldL, f_ldA, f_iload, f_iload_n, f_lload, f_lload_n, f_aload, f_aload_n, f_istore, f_istore_n, f_lstore, f_lstore_n, f_astore, f_astore_n, f_iinc, f_icI, f_iadd, f_isub, f_imul, f_idiv, f_irem, f_iand, f_ior, f_ixor, f_ishl, f_ishr, f_iushr, f_i2l, f_i2b, f_i2s, f_ladd, f_lmul, f_lcmp, f_dupI, f_dupR, f_dup2, f_pop, f_goto, f_if, f_icmp, f_tab, f_ts0, f_ts1, f_getI, f_getZ, f_getR, f_putI, f_putR, f_gets, f_iald, f_bald, f_aald, f_iast, f_bast, f_aast, f_alen, f_new, f_newa, f_anew, f_virt, f_stat0, f_stat1, f_spec0, f_spec1, f_spec9, f_copy, f_max, f_min, f_cV1, f_cV0, f_cS1, f_cS0, f_iret, f_lret, f_vret, f_kG, pf0, cIg, inR, lget, lset, lset2, clr, entL, cnd, psh, catS, tsw, List.take_succ_cons, List.take_zero, List.drop_succ_cons, List.drop_zero, List.reverse_cons, List.reverse_nil, List.nil_append, List.cons_append, List.length_cons, List.length_nil, List.replicate_succ, List.replicate_zero, Nat.reduceAdd, Nat.reduceSub, Nat.reduceLeDiff, Nat.reduceLT, Nat.reduceEqDiff, Nat.reduceMul, Nat.zero_add, Nat.add_zero, Nat.le_refl, Nat.zero_le, Int.reduceEq, Int.reduceToNat, Int.toNat_natCast, Int.reduceNeg, Int.reduceAdd, Int.reduceSub, Int.reduceMul, Int.reduceLT, Int.reduceLE, Int.reduceDiv, Int.reduceMod, Bool.false_eq_true, ↓reduceIte, true_and, and_true, implies_true, forall_const, true_or, or_true, or_false, false_or, not_true_eq_false, not_false_eq_true, false_implies, Prod.mk.injEq, Fin.val_zero, Fin.val_one, Fin.isValue, Fin.reduceFinMk, Fin.val_two, mR_uI, mK_uI, mN_uI, mI_uR, mK_uR, mN_uR, mR_uC, mK_uC, mN_uC, Option.some.injEq, Sum.inl.injEq, Sum.inr.injEq, decide_true, decide_false, Bool.or_false, Bool.false_or, Bool.or_true, Bool.true_or, Nat.reduceBEq, beq_self_eq_true, show tb 111 = tb_111 from rfl, tb_111, tb_111_0, pfb, pfb_b, pfb_c, pfb_v, pfa_b, pfa_c, pfa_v, hif]
    exact ⟨rfl, hM, Same.rf _ _⟩
set_option maxRecDepth 100000 in
set_option maxHeartbeats 4000000 in
theorem e_mundo (X : CX) (M : Mem) (s : St) (t : Int) (hM : MI M s) : Ev X y_m_undo (0, 0) [aR (some 521), aI t] M (Qn M (aUndo s t)) := by
  have hs := hM.1
  unfold aUndo
  by_cases h : 0 ≤ t ∧ t ≤ 7
  · have hif : (if 0 ≤ t ∧ t ≤ 7 then (1 : Int) else 0) = 1 := if_pos h
    rw [if_pos (show 0 ≤ t ∧ t < 8 by omega)]
    obtain ⟨m, rfl⟩ := Int.eq_ofNat_of_zero_le h.1
    rw [Int.toNat_natCast]
    obtain ⟨⟨t1, t2, t3, t4⟩, t5⟩ := hM.2.1 m (by omega)
    by_cases hn : s.1 m = []
    · rw [if_pos hn]
      have t0 : mI M 524 m = 0 := by rw [t1, hn]; rfl
      refine Ev_of mcd_112 mok_112 (by decide) rfl (Nat.le_of_ble_eq_true rfl) ?_
      rw [show yl 112 = 2 from rfl]
      refine G_w (pfb_ok X) LK_112 (fun i => false) 30 _ _ _ _ ?_
      simp only [f_0, f_s, f_iconst, f_bipush, f_sipush, f_ldc, f_ldc_w, f_ldc2_w, f_ldI, f_ldL, f_ldA, f_iload, f_iload_n, f_lload, f_lload_n, f_aload, f_aload_n, f_istore, f_istore_n, f_lstore, f_lstore_n, f_astore, f_astore_n, f_iinc, f_icI, f_iadd, f_isub, f_imul, f_idiv, f_irem, f_iand, f_ior, f_ixor, f_ishl, f_ishr, f_iushr, f_i2l, f_i2b, f_i2s, f_ladd, f_lmul, f_lcmp, f_dupI, f_dupR, f_dup2, f_pop, f_goto, f_if, f_icmp, f_tab, f_ts0, f_ts1, f_getI, f_getZ, f_getR, f_putI, f_putR, f_gets, f_iald, f_bald, f_aald, f_iast, f_bast, f_aast, f_alen, f_new, f_newa, f_anew, f_virt, f_stat0, f_stat1, f_spec0, f_spec1, f_spec9, f_copy, f_max, f_min, f_cV1, f_cV0, f_cS1, f_cS0, f_iret, f_lret, f_vret, f_kG, pf0, cIg, inR, lget, lset, lset2, clr, entL, cnd, psh, catS, tsw, List.take_succ_cons, List.take_zero, List.drop_succ_cons, List.drop_zero, List.reverse_cons, List.reverse_nil, List.nil_append, List.cons_append, List.length_cons, List.length_nil, List.replicate_succ, List.replicate_zero, Nat.reduceAdd, Nat.reduceSub, Nat.reduceLeDiff, Nat.reduceLT, Nat.reduceEqDiff, Nat.reduceMul, Nat.zero_add, Nat.add_zero, Nat.le_refl, Nat.zero_le, Int.reduceEq, Int.reduceToNat, Int.toNat_natCast, Int.reduceNeg, Int.reduceAdd, Int.reduceSub, Int.reduceMul, Int.reduceLT, Int.reduceLE, Int.reduceDiv, Int.reduceMod, Bool.false_eq_true, ↓reduceIte, true_and, and_true, implies_true, forall_const, true_or, or_true, or_false, false_or, not_true_eq_false, not_false_eq_true, false_implies, Prod.mk.injEq, Fin.val_zero, Fin.val_one, Fin.isValue, Fin.reduceFinMk, Fin.val_two, mR_uI, mK_uI, mN_uI, mI_uR, mK_uR, mN_uR, mR_uC, mK_uC, mN_uC, Option.some.injEq, Sum.inl.injEq, Sum.inr.injEq, decide_true, decide_false, Bool.or_false, Bool.false_or, Bool.or_true, Bool.true_or, Nat.reduceBEq, beq_self_eq_true, show tb 112 = tb_112 from rfl, tb_112, tb_112_0, pfb, pfb_b, pfb_c, pfb_v, pfa_b, pfa_c, pfa_v, hif, hs.mr1, hs.mr2, hs.mr3, hs.mr4, hs.mr5, hs.mr14, hs.mr15, hs.mr16, hs.mr18, hs.mr19, hs.mr20, hs.mr21, hs.mr22, hs.mr23, hs.mk521, hs.mk522, hs.mn522, hs.mk523, hs.mn523, hs.mk524, hs.mn524, hs.mk525, hs.mn525, hs.mk526, hs.mn526, hs.mk527, hs.mn527, hs.mk528, hs.mn528, hs.mk529, hs.mn529, hs.mk530, hs.mn530, hs.mk531, hs.mn531, hs.mk532, hs.mn532, hs.mk533, hs.mn533, hs.mk534, hs.mn534, hs.mk535, hs.mn535, t0]
      exact ⟨by omega, rfl, hM, Same.rf _ _⟩
    · rw [if_neg hn]
      have hpos := List.length_pos_iff.mpr hn
      have t0 : ¬ ((s.1 m).length : Int) = 0 := by omega
      have c2 : mI (uI (uI M 524 m ((s.1 m).length - 1)) 521 7 0) 524 m = (s.1 m).length - 1 := (mI_uI_ne (by omega)).trans mI_uI_eq
      refine Ev_of mcd_112 mok_112 (by decide) rfl (Nat.le_of_ble_eq_true rfl) ?_
      rw [show yl 112 = 2 from rfl]
      refine G_w (pfb_ok X) LK_112 (fun i => false) 30 _ _ _ _ ?_
      simp only [f_0, f_s, f_iconst, f_bipush, f_sipush, f_ldc, f_ldc_w, f_ldc2_w, f_ldI, f_ldL, f_ldA, f_iload, f_iload_n, f_lload, f_lload_n, f_aload, f_aload_n, f_istore, f_istore_n, f_lstore, f_lstore_n, f_astore, f_astore_n, f_iinc, f_icI, f_iadd, f_isub, f_imul, f_idiv, f_irem, f_iand, f_ior, f_ixor, f_ishl, f_ishr, f_iushr, f_i2l, f_i2b, f_i2s, f_ladd, f_lmul, f_lcmp, f_dupI, f_dupR, f_dup2, f_pop, f_goto, f_if, f_icmp, f_tab, f_ts0, f_ts1, f_getI, f_getZ, f_getR, f_putI, f_putR, f_gets, f_iald, f_bald, f_aald, f_iast, f_bast, f_aast, f_alen, f_new, f_newa, f_anew, f_virt, f_stat0, f_stat1, f_spec0, f_spec1, f_spec9, f_copy, f_max, f_min, f_cV1, f_cV0, f_cS1, f_cS0, f_iret, f_lret, f_vret, f_kG, pf0, cIg, inR, lget, lset, lset2, clr, entL, cnd, psh, catS, tsw, List.take_succ_cons, List.take_zero, List.drop_succ_cons, List.drop_zero, List.reverse_cons, List.reverse_nil, List.nil_append, List.cons_append, List.length_cons, List.length_nil, List.replicate_succ, List.replicate_zero, Nat.reduceAdd, Nat.reduceSub, Nat.reduceLeDiff, Nat.reduceLT, Nat.reduceEqDiff, Nat.reduceMul, Nat.zero_add, Nat.add_zero, Nat.le_refl, Nat.zero_le, Int.reduceEq, Int.reduceToNat, Int.toNat_natCast, Int.reduceNeg, Int.reduceAdd, Int.reduceSub, Int.reduceMul, Int.reduceLT, Int.reduceLE, Int.reduceDiv, Int.reduceMod, Bool.false_eq_true, ↓reduceIte, true_and, and_true, implies_true, forall_const, true_or, or_true, or_false, false_or, not_true_eq_false, not_false_eq_true, false_implies, Prod.mk.injEq, Fin.val_zero, Fin.val_one, Fin.isValue, Fin.reduceFinMk, Fin.val_two, mR_uI, mK_uI, mN_uI, mI_uR, mK_uR, mN_uR, mR_uC, mK_uC, mN_uC, Option.some.injEq, Sum.inl.injEq, Sum.inr.injEq, decide_true, decide_false, Bool.or_false, Bool.false_or, Bool.or_true, Bool.true_or, Nat.reduceBEq, beq_self_eq_true, show tb 112 = tb_112 from rfl, tb_112, tb_112_0, pfb, pfb_b, pfb_c, pfb_v, pfa_b, pfa_c, pfa_v, hif, hs.mr1, hs.mr2, hs.mr3, hs.mr4, hs.mr5, hs.mr14, hs.mr15, hs.mr16, hs.mr18, hs.mr19, hs.mr20, hs.mr21, hs.mr22, hs.mr23, hs.mk521, hs.mk522, hs.mn522, hs.mk523, hs.mn523, hs.mk524, hs.mn524, hs.mk525, hs.mn525, hs.mk526, hs.mn526, hs.mk527, hs.mn527, hs.mk528, hs.mn528, hs.mk529, hs.mn529, hs.mk530, hs.mn530, hs.mk531, hs.mn531, hs.mk532, hs.mn532, hs.mk533, hs.mn533, hs.mk534, hs.mn534, hs.mk535, hs.mn535, t1, t0, c2]
      have hF : Fr M (uI (uI M 524 m ((s.1 m).length - 1)) 521 7 0) NN F7 C45 := Fr.uf (F := F7) ((Fr.rf M NN F7 C45).uc (Or.inl rfl) (by omega)) rfl
      have hlt : ((s.1 m).take ((s.1 m).length - 1)).length = (s.1 m).length - 1 := by rw [List.length_take]; omega
      have hx := MI.txt (B := (s.1 m).take ((s.1 m).length - 1)) (show m < 8 by omega) hM hF mI_uI_eq ⟨by rw [c2, hlt]; omega, fun j c hc => by
          rw [mI_uI_ne (by omega), mI_uI_ne (by omega)]
          rw [List.getElem?_take] at hc
          split at hc
          · exact t2 j c hc
          · (cases hc), by omega, fun c hc => t4 c (List.mem_of_mem_take hc)⟩ (by omega) (fun u hu hne => by
        obtain ⟨⟨u1, u2, u3, u4⟩, u5⟩ := hM.2.1 u hu
        exact ⟨by rw [mI_uI_ne (by omega), mI_uI_nk hne]; exact u1, fun j c hc => by rw [mI_uI_ne (by omega), mI_uI_ne (by omega)]; exact u2 j c hc, u3, u4⟩)
      have hfin : Qn M (((s.1 m).length : Int) - 1, (setT s.1 m ((s.1 m).take ((s.1 m).length - 1)), s.2)) (some (aI (((s.1 m).length : Int) - 1))) (uI (uI M 524 m ((s.1 m).length - 1)) 521 7 0) := ⟨rfl, hx.1, hx.2⟩
      (repeat' (first | with_reducible apply And.intro | with_reducible intro _)) <;> (try omega)
      all_goals exact hfin
  · have hif : (if 0 ≤ t ∧ t ≤ 7 then (1 : Int) else 0) = 0 := if_neg h
    rw [if_neg (show ¬ (0 ≤ t ∧ t < 8) by omega)]
    refine Ev_of mcd_112 mok_112 (by decide) rfl (Nat.le_of_ble_eq_true rfl) ?_
    rw [show yl 112 = 2 from rfl]
    refine G_w (pfb_ok X) LK_112 (fun i => false) 30 _ _ _ _ ?_
    simp only [f_0, f_s, f_iconst, f_bipush, f_sipush, f_ldc, f_ldc_w, f_ldc2_w, f_ldI, f_ldL, f_ldA, f_iload, f_iload_n, f_lload, f_lload_n, f_aload, f_aload_n, f_istore, f_istore_n, f_lstore, f_lstore_n, f_astore, f_astore_n, f_iinc, f_icI, f_iadd, f_isub, f_imul, f_idiv, f_irem, f_iand, f_ior, f_ixor, f_ishl, f_ishr, f_iushr, f_i2l, f_i2b, f_i2s, f_ladd, f_lmul, f_lcmp, f_dupI, f_dupR, f_dup2, f_pop, f_goto, f_if, f_icmp, f_tab, f_ts0, f_ts1, f_getI, f_getZ, f_getR, f_putI, f_putR, f_gets, f_iald, f_bald, f_aald, f_iast, f_bast, f_aast, f_alen, f_new, f_newa, f_anew, f_virt, f_stat0, f_stat1, f_spec0, f_spec1, f_spec9, f_copy, f_max, f_min, f_cV1, f_cV0, f_cS1, f_cS0, f_iret, f_lret, f_vret, f_kG, pf0, cIg, inR, lget, lset, lset2, clr, entL, cnd, psh, catS, tsw, List.take_succ_cons, List.take_zero, List.drop_succ_cons, List.drop_zero, List.reverse_cons, List.reverse_nil, List.nil_append, List.cons_append, List.length_cons, List.length_nil, List.replicate_succ, List.replicate_zero, Nat.reduceAdd, Nat.reduceSub, Nat.reduceLeDiff, Nat.reduceLT, Nat.reduceEqDiff, Nat.reduceMul, Nat.zero_add, Nat.add_zero, Nat.le_refl, Nat.zero_le, Int.reduceEq, Int.reduceToNat, Int.toNat_natCast, Int.reduceNeg, Int.reduceAdd, Int.reduceSub, Int.reduceMul, Int.reduceLT, Int.reduceLE, Int.reduceDiv, Int.reduceMod, Bool.false_eq_true, ↓reduceIte, true_and, and_true, implies_true, forall_const, true_or, or_true, or_false, false_or, not_true_eq_false, not_false_eq_true, false_implies, Prod.mk.injEq, Fin.val_zero, Fin.val_one, Fin.isValue, Fin.reduceFinMk, Fin.val_two, mR_uI, mK_uI, mN_uI, mI_uR, mK_uR, mN_uR, mR_uC, mK_uC, mN_uC, Option.some.injEq, Sum.inl.injEq, Sum.inr.injEq, decide_true, decide_false, Bool.or_false, Bool.false_or, Bool.or_true, Bool.true_or, Nat.reduceBEq, beq_self_eq_true, show tb 112 = tb_112 from rfl, tb_112, tb_112_0, pfb, pfb_b, pfb_c, pfb_v, pfa_b, pfa_c, pfa_v, hif]
    exact ⟨rfl, hM, Same.rf _ _⟩
