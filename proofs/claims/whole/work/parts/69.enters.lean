/-! enters -/
def RBx (M : Mem) (bs : List Mb) : Prop := RBt M bs ∧ RBg M bs ∧ RBm M bs
theorem RBx.fr {M M' : Mem} {bs : List Mb} {P F C : Nat → Prop} (h : RBx M bs) (hF : Fr M M' P F C) (h1 : ¬ F 10) (h2 : ∀ a, 8 ≤ a → a < 32 → ¬ P a) (h3 : ¬ C 529 ∧ ¬ C 527) : RBx M' bs := ⟨h.1.fr hF h1 h2, h.2.1.fr hF h3.1, h.2.2.fr hF h3.2⟩
theorem RBx.set {M : Mem} {A B : List Mb} {b : Mb} {v : Int} (h : RBx M (A ++ b :: B)) : RBx (uI M 527 A.length v) (A ++ (b.1, b.2.1, v) :: B) := by
  obtain ⟨⟨t1, t2, t3⟩, hg, hm⟩ := h
  have hl : (A ++ (b.1, b.2.1, v) :: B).length = (A ++ b :: B).length := by simp
  have hF : Fr M (uI M 527 A.length v) NN NN (fun a => a = 527) := (Fr.rf M NN NN (fun a => a = 527)).uc rfl (by omega)
  refine ⟨⟨(mI_uI_ne (by omega)).trans (by rw [hl]; exact t1), by rw [hl]; exact t2, fun j x hx => ?_⟩, fun j x hx => ?_, fun j x hx => ?_⟩
  · have hj := (List.getElem?_eq_some_iff.mp hx).1
    rw [hl] at hj
    by_cases hjA : j = A.length
    · subst hjA
      rw [at_mid, Option.some.injEq] at hx
      subst hx
      exact (t3 A.length b (at_mid _ _ _)).fr hF (by omega) (fun h => h)
    · rw [at_oth A B _ b j hjA] at hx
      exact (t3 j x hx).fr hF (by omega) (fun h => h)
  · rw [mI_uI_ne (by omega)]
    by_cases hjA : j = A.length
    · subst hjA
      rw [at_mid, Option.some.injEq] at hx
      subst hx
      exact hg A.length b (at_mid _ _ _)
    · rw [at_oth A B _ b j hjA] at hx
      exact hg j x hx
  · by_cases hjA : j = A.length
    · subst hjA
      rw [at_mid, Option.some.injEq] at hx
      subst hx
      exact mI_uI_eq
    · rw [at_oth A B _ b j hjA] at hx
      rw [mI_uI_nk hjA]
      exact hm j x hx
abbrev EP : Nat → Prop := fun a => 7 ≤ a
abbrev EF : Nat → Prop := fun k => k = 10 ∨ k = 11 ∨ k = 13
abbrev EC : Nat → Prop := fun a => a = 527 ∨ a = 529
/-- how enters ends -/
def EN (M : Mem) (res : Int × List Mb × List Po) (r : Option AV) (M' : Mem) : Prop := r = none ∧ Fr M M' EP EF EC ∧ mI M' 521 13 = res.1 ∧ (res.1 = 0 → RBx M' res.2.1 ∧ RP M' res.2.2)
theorem prF_cons (b : Mb) (B A : List Mb) (pl : List Po) : prF (b :: B) A pl = prE A B (prL 3 0 (b.1, b.2.1, ungd b.2.1 b.2.2) pl) := rfl
theorem bit01 {x : Int} {l : Nat} (hx : 0 ≤ x ∧ x ≤ 7) (hl : l < 3) : iAnd (iShr x l) 1 = 0 ∨ iAnd (iShr x l) 1 = 1 := by
  rcases (show l = 0 ∨ l = 1 ∨ l = 2 by omega) with rfl | rfl | rfl
  · rw [show ((0 : Nat) : Int) = 0 from rfl, bt_0 hx]; omega
  · rw [show ((1 : Nat) : Int) = 1 from rfl, bt_1 hx]; omega
  · rw [show ((2 : Nat) : Int) = 2 from rfl, bt_2 hx]; omega
theorem iOr_b : ∀ g : Nat, g < 8 → ∀ s : Nat, s < 8 → 0 ≤ iOr g s ∧ iOr g s ≤ 7 := by decide +kernel
set_option maxRecDepth 100000 in
set_option maxHeartbeats 4000000 in
theorem n_loop (X : CX) (M : Mem) (hs : Shp M) : ∀ (B A : List Mb) (pl : List Po) (M1 : Mem) (v2 : Option AV), okB B → RBx M1 (A ++ B) → RP M1 pl → mI M1 521 13 = 0 → Fr M M1 EP EF EC → G X y_m_enters (mZ M, mS M, 0, 0) 35 [some (aR (some 521)), some (aI A.length), v2] [] M1 (EN M (prF B A pl)) := by
  intro B
  induction B with
  | nil =>
    intro A pl M1 v2 okb hb hR hw hF
    rw [List.append_nil] at hb
    have hs1 := hF.shp hs
    have c1 := hb.1.1
    have hge : (A.length : Int) ≤ (A.length : Int) := Int.le_refl _
    refine G_w (pfb_ok X) LK_145 (fun i => i == 35) 20 _ _ _ _ ?_
    simp only [f_0, f_s, f_iconst, f_bipush, f_sipush, f_ldc, f_ldc_w, f_ldc2_w, f_ldI, f_ldL, f_ldA, f_iload, f_iload_n, f_lload, f_lload_n, f_aload, f_aload_n, f_istore, f_istore_n, f_lstore, f_lstore_n, f_astore, f_astore_n, f_iinc, f_icI, f_iadd, f_isub, f_imul, f_idiv, f_irem, f_iand, f_ior, f_ixor, f_ishl, f_ishr, f_iushr, f_i2l, f_i2b, f_i2s, f_ladd, f_lmul, f_lcmp, f_dupI, f_dupR, f_dup2, f_pop, f_goto, f_if, f_icmp, f_tab, f_ts0, f_ts1, f_getI, f_getZ, f_getR, f_putI, f_putR, f_gets, f_iald, f_bald, f_aald, f_iast, f_bast, f_aast, f_alen, f_new, f_newa, f_anew, f_virt, f_stat0, f_stat1, f_spec0, f_spec1, f_spec9, f_copy, f_max, f_min, f_cV1, f_cV0, f_cS1, f_cS0, f_iret, f_lret, f_vret, f_kG, pf0, cIg, inR, lget, lset, lset2, clr, entL, cnd, psh, catS, tsw, List.take_succ_cons, List.take_zero, List.drop_succ_cons, List.drop_zero, List.reverse_cons, List.reverse_nil, List.nil_append, List.cons_append, List.length_cons, List.length_nil, List.replicate_succ, List.replicate_zero, Nat.reduceAdd, Nat.reduceSub, Nat.reduceLeDiff, Nat.reduceLT, Nat.reduceEqDiff, Nat.reduceMul, Nat.zero_add, Nat.add_zero, Nat.le_refl, Nat.zero_le, Int.reduceEq, Int.reduceToNat, Int.toNat_natCast, Int.reduceNeg, Int.reduceAdd, Int.reduceSub, Int.reduceMul, Int.reduceLT, Int.reduceLE, Int.reduceDiv, Int.reduceMod, Bool.false_eq_true, ↓reduceIte, true_and, and_true, implies_true, forall_const, true_or, or_true, or_false, false_or, not_true_eq_false, not_false_eq_true, false_implies, Prod.mk.injEq, Fin.val_zero, Fin.val_one, Fin.isValue, Fin.reduceFinMk, Fin.val_two, mR_uI, mK_uI, mN_uI, mI_uR, mK_uR, mN_uR, mR_uC, mK_uC, mN_uC, Option.some.injEq, Sum.inl.injEq, Sum.inr.injEq, decide_true, decide_false, Bool.or_false, Bool.false_or, Bool.or_true, Bool.true_or, Nat.reduceBEq, beq_self_eq_true, show tb 145 = tb_145 from rfl, tb_145, tb_145_0, tb_145_1, tb_145_2, pfb, pfb_b, pfb_c, pfb_v, pfa_b, pfa_c, pfa_v, hs1.mk521, c1, hge]
    exact ⟨rfl, hF, hw, fun _ => ⟨hb, hR⟩⟩
  | cons b B ih =>
    intro A pl M1 v2 okb hb hR hw hF
    have hs1 := hF.shp hs
    have okbb := okb b List.mem_cons_self
    have c1 := hb.1.1
    have c2 := hb.1.2.1
    rw [List.length_append, List.length_cons] at c1 c2
    have hm := at_mid A B b
    have g1 := hb.2.1 _ _ hm
    have m1 := hb.2.2 _ _ hm
    have hge : ¬ ((A.length + (B.length + 1) : Nat) : Int) ≤ (A.length : Int) := by omega
    have inner : ∀ (k l : Nat) (b' : Mb) (pl : List Po) (M2 : Mem), l + k = 3 → okM b' → RBx M2 (A ++ b' :: B) → RP M2 pl → mI M2 521 13 = 0 → Fr M M2 EP EF EC → G X y_m_enters (mZ M, mS M, 0, 0) 57 [some (aR (some 521)), some (aI A.length), some (aI l)] [] M2 (EN M (prE A B (prL k l b' pl))) := by
      intro k
      induction k with
      | zero =>
        intro l b' pl M2 hl ok' hb2 hR2 hw2 hF2
        have hl3 : l = 3 := by omega
        subst hl3
        have hn := ih (A ++ [b']) pl M2 (some (aI 3)) (fun x hx => okb x (List.mem_cons_of_mem _ hx)) (by rw [List.append_assoc]; exact hb2) hR2 hw2 hF2
        rw [show ((A ++ [b']).length : Int) = (A.length : Int) + 1 by rw [List.length_append]; rfl] at hn
        have he : prE A B (prL 0 3 b' pl) = prF B (A ++ [b']) pl := rfl
        rw [he]
        refine G_w (pfb_ok X) LK_145 (fun i => i == 35) 20 _ _ _ _ ?_
        simp only [f_0, f_s, f_iconst, f_bipush, f_sipush, f_ldc, f_ldc_w, f_ldc2_w, f_ldI, f_ldL, f_ldA, f_iload, f_iload_n, f_lload, f_lload_n, f_aload, f_aload_n, f_istore, f_istore_n, f_lstore, f_lstore_n, f_astore, f_astore_n, f_iinc, f_icI, f_iadd, f_isub, f_imul, f_idiv, f_irem, f_iand, f_ior, f_ixor, f_ishl, f_ishr, f_iushr, f_i2l, f_i2b, f_i2s, f_ladd, f_lmul, f_lcmp, f_dupI, f_dupR, f_dup2, f_pop, f_goto, f_if, f_icmp, f_tab, f_ts0, f_ts1, f_getI, f_getZ, f_getR, f_putI, f_putR, f_gets, f_iald, f_bald, f_aald, f_iast, f_bast, f_aast, f_alen, f_new, f_newa, f_anew, f_virt, f_stat0, f_stat1, f_spec0, f_spec1, f_spec9, f_copy, f_max, f_min, f_cV1, f_cV0, f_cS1, f_cS0, f_iret, f_lret, f_vret, f_kG, pf0, cIg, inR, lget, lset, lset2, clr, entL, cnd, psh, catS, tsw, List.take_succ_cons, List.take_zero, List.drop_succ_cons, List.drop_zero, List.reverse_cons, List.reverse_nil, List.nil_append, List.cons_append, List.length_cons, List.length_nil, List.replicate_succ, List.replicate_zero, Nat.reduceAdd, Nat.reduceSub, Nat.reduceLeDiff, Nat.reduceLT, Nat.reduceEqDiff, Nat.reduceMul, Nat.zero_add, Nat.add_zero, Nat.le_refl, Nat.zero_le, Int.reduceEq, Int.reduceToNat, Int.toNat_natCast, Int.reduceNeg, Int.reduceAdd, Int.reduceSub, Int.reduceMul, Int.reduceLT, Int.reduceLE, Int.reduceDiv, Int.reduceMod, Bool.false_eq_true, ↓reduceIte, true_and, and_true, implies_true, forall_const, true_or, or_true, or_false, false_or, not_true_eq_false, not_false_eq_true, false_implies, Prod.mk.injEq, Fin.val_zero, Fin.val_one, Fin.isValue, Fin.reduceFinMk, Fin.val_two, mR_uI, mK_uI, mN_uI, mI_uR, mK_uR, mN_uR, mR_uC, mK_uC, mN_uC, Option.some.injEq, Sum.inl.injEq, Sum.inr.injEq, decide_true, decide_false, Bool.or_false, Bool.false_or, Bool.or_true, Bool.true_or, Nat.reduceBEq, beq_self_eq_true, show tb 145 = tb_145 from rfl, tb_145, tb_145_0, tb_145_1, tb_145_2, pfb, pfb_b, pfb_c, pfb_v, pfa_b, pfa_c, pfa_v]
        (repeat' (first | with_reducible apply And.intro | with_reducible intro _)) <;> (try omega)
        all_goals exact hn
      | succ k ihk =>
        intro l b' pl M2 hl ok' hb2 hR2 hw2 hF2
        have hs2 := hF2.shp hs
        have hm2 := at_mid A B b'
        have g2 := hb2.2.1 _ _ hm2
        have m2 := hb2.2.2 _ _ hm2
        have t2 := hb2.1.2.2 _ _ hm2
        have d1 := hb2.1.1
        rw [List.length_append, List.length_cons] at d1
        have hl9 : ¬ (3 : Int) ≤ (l : Int) := by omega
        obtain ⟨gn, hgn⟩ := Int.eq_ofNat_of_zero_le ok'.2.2.1.1
        obtain ⟨sn, hsn⟩ := Int.eq_ofNat_of_zero_le ok'.2.2.2.1
        have hor : 0 ≤ iOr b'.2.1 b'.2.2 ∧ iOr b'.2.1 b'.2.2 ≤ 7 := by
          rw [hgn, hsn]
          exact iOr_b gn (by have := ok'.2.2.1.2; omega) sn (by have := ok'.2.2.2.2; omega)
        have hb01 := bit01 (l := l) hor (by omega)
        -- behind a letter that could not be
        have stop : ∀ (M3 : Mem) (v : Int), v ≠ 0 → Shp M3 → mI M3 521 13 = v → mI M3 521 10 = ((A.length + (B.length + 1) : Nat) : Int) → Fr M M3 EP EF EC → ∀ x : Mb × List Po, G X y_m_enters (mZ M, mS M, 0, 0) 90 [some (aR (some 521)), some (aI A.length), some (aI l)] [] M3 (EN M (prE A B (v, x))) := by
          intro M3 v hv hs3 h13 h10 hF3 x
          have hfin : EN M (prE A B (v, x)) none M3 := by
            unfold prE
            rw [if_neg hv]
            exact ⟨rfl, hF3, h13, fun h => absurd h hv⟩
          refine G_w (pfb_ok X) LK_145 (fun i => false) 40 _ _ _ _ ?_
          simp only [f_0, f_s, f_iconst, f_bipush, f_sipush, f_ldc, f_ldc_w, f_ldc2_w, f_ldI, f_ldL, f_ldA, f_iload, f_iload_n, f_lload, f_lload_n, f_aload, f_aload_n, f_istore, f_istore_n, f_lstore, f_lstore_n, f_astore, f_astore_n, f_iinc, f_icI, f_iadd, f_isub, f_imul, f_idiv, f_irem, f_iand, f_ior, f_ixor, f_ishl, f_ishr, f_iushr, f_i2l, f_i2b, f_i2s, f_ladd, f_lmul, f_lcmp, f_dupI, f_dupR, f_dup2, f_pop, f_goto, f_if, f_icmp, f_tab, f_ts0, f_ts1, f_getI, f_getZ, f_getR, f_putI, f_putR, f_gets, f_iald, f_bald, f_aald, f_iast, f_bast, f_aast, f_alen, f_new, f_newa, f_anew, f_virt, f_stat0, f_stat1, f_spec0, f_spec1, f_spec9, f_copy, f_max, f_min, f_cV1, f_cV0, f_cS1, f_cS0, f_iret, f_lret, f_vret, f_kG, pf0, cIg, inR, lget, lset, lset2, clr, entL, cnd, psh, catS, tsw, List.take_succ_cons, List.take_zero, List.drop_succ_cons, List.drop_zero, List.reverse_cons, List.reverse_nil, List.nil_append, List.cons_append, List.length_cons, List.length_nil, List.replicate_succ, List.replicate_zero, Nat.reduceAdd, Nat.reduceSub, Nat.reduceLeDiff, Nat.reduceLT, Nat.reduceEqDiff, Nat.reduceMul, Nat.zero_add, Nat.add_zero, Nat.le_refl, Nat.zero_le, Int.reduceEq, Int.reduceToNat, Int.toNat_natCast, Int.reduceNeg, Int.reduceAdd, Int.reduceSub, Int.reduceMul, Int.reduceLT, Int.reduceLE, Int.reduceDiv, Int.reduceMod, Bool.false_eq_true, ↓reduceIte, true_and, and_true, implies_true, forall_const, true_or, or_true, or_false, false_or, not_true_eq_false, not_false_eq_true, false_implies, Prod.mk.injEq, Fin.val_zero, Fin.val_one, Fin.isValue, Fin.reduceFinMk, Fin.val_two, mR_uI, mK_uI, mN_uI, mI_uR, mK_uR, mN_uR, mR_uC, mK_uC, mN_uC, Option.some.injEq, Sum.inl.injEq, Sum.inr.injEq, decide_true, decide_false, Bool.or_false, Bool.false_or, Bool.or_true, Bool.true_or, Nat.reduceBEq, beq_self_eq_true, show tb 145 = tb_145 from rfl, tb_145, tb_145_0, tb_145_1, tb_145_2, pfb, pfb_b, pfb_c, pfb_v, pfa_b, pfa_c, pfa_v, hs3.mk521, h13, h10, hv]
          (repeat' (first | with_reducible apply And.intro | with_reducible intro _)) <;> (try omega)
          all_goals exact hfin
        have onward : ∀ (M3 : Mem) (b2 : Mb) (pl2 : List Po), okM b2 → RBx M3 (A ++ b2 :: B) → RP M3 pl2 → mI M3 521 13 = 0 → Fr M M3 EP EF EC → G X y_m_enters (mZ M, mS M, 0, 0) 90 [some (aR (some 521)), some (aI A.length), some (aI l)] [] M3 (EN M (prE A B (prL k (l + 1) b2 pl2))) := by
          intro M3 b2 pl2 ok2 hb3 hR3 hw3 hF3
          refine G_w (pfb_ok X) LK_145 (fun i => i == 57) 20 _ _ _ _ ?_
          simp only [f_0, f_s, f_iconst, f_bipush, f_sipush, f_ldc, f_ldc_w, f_ldc2_w, f_ldI, f_ldL, f_ldA, f_iload, f_iload_n, f_lload, f_lload_n, f_aload, f_aload_n, f_istore, f_istore_n, f_lstore, f_lstore_n, f_astore, f_astore_n, f_iinc, f_icI, f_iadd, f_isub, f_imul, f_idiv, f_irem, f_iand, f_ior, f_ixor, f_ishl, f_ishr, f_iushr, f_i2l, f_i2b, f_i2s, f_ladd, f_lmul, f_lcmp, f_dupI, f_dupR, f_dup2, f_pop, f_goto, f_if, f_icmp, f_tab, f_ts0, f_ts1, f_getI, f_getZ, f_getR, f_putI, f_putR, f_gets, f_iald, f_bald, f_aald, f_iast, f_bast, f_aast, f_alen, f_new, f_newa, f_anew, f_virt, f_stat0, f_stat1, f_spec0, f_spec1, f_spec9, f_copy, f_max, f_min, f_cV1, f_cV0, f_cS1, f_cS0, f_iret, f_lret, f_vret, f_kG, pf0, cIg, inR, lget, lset, lset2, clr, entL, cnd, psh, catS, tsw, List.take_succ_cons, List.take_zero, List.drop_succ_cons, List.drop_zero, List.reverse_cons, List.reverse_nil, List.nil_append, List.cons_append, List.length_cons, List.length_nil, List.replicate_succ, List.replicate_zero, Nat.reduceAdd, Nat.reduceSub, Nat.reduceLeDiff, Nat.reduceLT, Nat.reduceEqDiff, Nat.reduceMul, Nat.zero_add, Nat.add_zero, Nat.le_refl, Nat.zero_le, Int.reduceEq, Int.reduceToNat, Int.toNat_natCast, Int.reduceNeg, Int.reduceAdd, Int.reduceSub, Int.reduceMul, Int.reduceLT, Int.reduceLE, Int.reduceDiv, Int.reduceMod, Bool.false_eq_true, ↓reduceIte, true_and, and_true, implies_true, forall_const, true_or, or_true, or_false, false_or, not_true_eq_false, not_false_eq_true, false_implies, Prod.mk.injEq, Fin.val_zero, Fin.val_one, Fin.isValue, Fin.reduceFinMk, Fin.val_two, mR_uI, mK_uI, mN_uI, mI_uR, mK_uR, mN_uR, mR_uC, mK_uC, mN_uC, Option.some.injEq, Sum.inl.injEq, Sum.inr.injEq, decide_true, decide_false, Bool.or_false, Bool.false_or, Bool.or_true, Bool.true_or, Nat.reduceBEq, beq_self_eq_true, show tb 145 = tb_145 from rfl, tb_145, tb_145_0, tb_145_1, tb_145_2, pfb, pfb_b, pfb_c, pfb_v, pfa_b, pfa_c, pfa_v]
          exact ⟨by omega, ihk (l + 1) b2 pl2 M3 (by omega) ok2 hb3 hR3 hw3 hF3⟩
        rw [prL]
        by_cases hbit : iAnd (iShr (iOr b'.2.1 b'.2.2) l) 1 = 0
        · have hif : (if iAnd (iShr (iOr b'.2.1 b'.2.2) l) 1 = 1 then (1 : Int) else 0) = 0 := if_neg (by omega)
          rw [if_pos hbit]
          refine G_w (pfb_ok X) LK_145 (fun i => i == 57 || i == 90) 40 _ _ _ _ ?_
          simp only [f_0, f_s, f_iconst, f_bipush, f_sipush, f_ldc, f_ldc_w, f_ldc2_w, f_ldI, f_ldL, f_ldA, f_iload, f_iload_n, f_lload, f_lload_n, f_aload, f_aload_n, f_istore, f_istore_n, f_lstore, f_lstore_n, f_astore, f_astore_n, f_iinc, f_icI, f_iadd, f_isub, f_imul, f_idiv, f_irem, f_iand, f_ior, f_ixor, f_ishl, f_ishr, f_iushr, f_i2l, f_i2b, f_i2s, f_ladd, f_lmul, f_lcmp, f_dupI, f_dupR, f_dup2, f_pop, f_goto, f_if, f_icmp, f_tab, f_ts0, f_ts1, f_getI, f_getZ, f_getR, f_putI, f_putR, f_gets, f_iald, f_bald, f_aald, f_iast, f_bast, f_aast, f_alen, f_new, f_newa, f_anew, f_virt, f_stat0, f_stat1, f_spec0, f_spec1, f_spec9, f_copy, f_max, f_min, f_cV1, f_cV0, f_cS1, f_cS0, f_iret, f_lret, f_vret, f_kG, pf0, cIg, inR, lget, lset, lset2, clr, entL, cnd, psh, catS, tsw, List.take_succ_cons, List.take_zero, List.drop_succ_cons, List.drop_zero, List.reverse_cons, List.reverse_nil, List.nil_append, List.cons_append, List.length_cons, List.length_nil, List.replicate_succ, List.replicate_zero, Nat.reduceAdd, Nat.reduceSub, Nat.reduceLeDiff, Nat.reduceLT, Nat.reduceEqDiff, Nat.reduceMul, Nat.zero_add, Nat.add_zero, Nat.le_refl, Nat.zero_le, Int.reduceEq, Int.reduceToNat, Int.toNat_natCast, Int.reduceNeg, Int.reduceAdd, Int.reduceSub, Int.reduceMul, Int.reduceLT, Int.reduceLE, Int.reduceDiv, Int.reduceMod, Bool.false_eq_true, ↓reduceIte, true_and, and_true, implies_true, forall_const, true_or, or_true, or_false, false_or, not_true_eq_false, not_false_eq_true, false_implies, Prod.mk.injEq, Fin.val_zero, Fin.val_one, Fin.isValue, Fin.reduceFinMk, Fin.val_two, mR_uI, mK_uI, mN_uI, mI_uR, mK_uR, mN_uR, mR_uC, mK_uC, mN_uC, Option.some.injEq, Sum.inl.injEq, Sum.inr.injEq, decide_true, decide_false, Bool.or_false, Bool.false_or, Bool.or_true, Bool.true_or, Nat.reduceBEq, beq_self_eq_true, show tb 145 = tb_145 from rfl, tb_145, tb_145_0, tb_145_1, tb_145_2, pfb, pfb_b, pfb_c, pfb_v, pfa_b, pfa_c, pfa_v, hs2.mr1, hs2.mr2, hs2.mr3, hs2.mr4, hs2.mr5, hs2.mr14, hs2.mr15, hs2.mr16, hs2.mr18, hs2.mr19, hs2.mr20, hs2.mr21, hs2.mr22, hs2.mr23, hs2.mk521, hs2.mk522, hs2.mn522, hs2.mk523, hs2.mn523, hs2.mk524, hs2.mn524, hs2.mk525, hs2.mn525, hs2.mk526, hs2.mn526, hs2.mk527, hs2.mn527, hs2.mk528, hs2.mn528, hs2.mk529, hs2.mn529, hs2.mk530, hs2.mn530, hs2.mk531, hs2.mn531, hs2.mk532, hs2.mn532, hs2.mk533, hs2.mn533, hs2.mk534, hs2.mn534, hs2.mk535, hs2.mn535, hl9, hw2, g2, m2, hif]
          refine ⟨by omega, by omega, ?_⟩
          refine Ev_mono (e_isTimed X M2 A.length l b'.1 pl hs2 (by omega) (by omega) t2 ok'.1 hR2) (fun r M3 hr _ _ => ?_)
          unfold IT at hr
          by_cases hbr : brs b'.1 (lpr l) = true
          · rw [if_pos hbr] at hr ⊢
            by_cases h100 : pl.length = 100
            · rw [if_pos h100] at hr ⊢
              obtain ⟨rfl, x1, x2⟩ := hr
              simp only [f_kG, psh, Nat.reduceAdd]
              refine G_w (pfb_ok X) LK_145 (fun i => i == 90) 40 _ _ _ _ ?_
              simp only [f_0, f_s, f_iconst, f_bipush, f_sipush, f_ldc, f_ldc_w, f_ldc2_w, f_ldI, f_ldL, f_ldA, f_iload, f_iload_n, f_lload, f_lload_n, f_aload, f_aload_n, f_istore, f_istore_n, f_lstore, f_lstore_n, f_astore, f_astore_n, f_iinc, f_icI, f_iadd, f_isub, f_imul, f_idiv, f_irem, f_iand, f_ior, f_ixor, f_ishl, f_ishr, f_iushr, f_i2l, f_i2b, f_i2s, f_ladd, f_lmul, f_lcmp, f_dupI, f_dupR, f_dup2, f_pop, f_goto, f_if, f_icmp, f_tab, f_ts0, f_ts1, f_getI, f_getZ, f_getR, f_putI, f_putR, f_gets, f_iald, f_bald, f_aald, f_iast, f_bast, f_aast, f_alen, f_new, f_newa, f_anew, f_virt, f_stat0, f_stat1, f_spec0, f_spec1, f_spec9, f_copy, f_max, f_min, f_cV1, f_cV0, f_cS1, f_cS0, f_iret, f_lret, f_vret, f_kG, pf0, cIg, inR, lget, lset, lset2, clr, entL, cnd, psh, catS, tsw, List.take_succ_cons, List.take_zero, List.drop_succ_cons, List.drop_zero, List.reverse_cons, List.reverse_nil, List.nil_append, List.cons_append, List.length_cons, List.length_nil, List.replicate_succ, List.replicate_zero, Nat.reduceAdd, Nat.reduceSub, Nat.reduceLeDiff, Nat.reduceLT, Nat.reduceEqDiff, Nat.reduceMul, Nat.zero_add, Nat.add_zero, Nat.le_refl, Nat.zero_le, Int.reduceEq, Int.reduceToNat, Int.toNat_natCast, Int.reduceNeg, Int.reduceAdd, Int.reduceSub, Int.reduceMul, Int.reduceLT, Int.reduceLE, Int.reduceDiv, Int.reduceMod, Bool.false_eq_true, ↓reduceIte, true_and, and_true, implies_true, forall_const, true_or, or_true, or_false, false_or, not_true_eq_false, not_false_eq_true, false_implies, Prod.mk.injEq, Fin.val_zero, Fin.val_one, Fin.isValue, Fin.reduceFinMk, Fin.val_two, mR_uI, mK_uI, mN_uI, mI_uR, mK_uR, mN_uR, mR_uC, mK_uC, mN_uC, Option.some.injEq, Sum.inl.injEq, Sum.inr.injEq, decide_true, decide_false, Bool.or_false, Bool.false_or, Bool.or_true, Bool.true_or, Nat.reduceBEq, beq_self_eq_true, show tb 145 = tb_145 from rfl, tb_145, tb_145_0, tb_145_1, tb_145_2, pfb, pfb_b, pfb_c, pfb_v, pfa_b, pfa_c, pfa_v]
              exact stop M3 3 (by omega) (x2.shp hs2) x1 ((x2.2.1 10 (by omega)).trans d1) (hF2.tr (x2.w (fun a h => by omega) (fun a h => by omega) (fun _ h => h.elim))) (b', pl)
            · rw [if_neg h100] at hr ⊢
              obtain ⟨rfl, x1, x2⟩ := hr
              have hs3 := x2.shp hs2
              have hb3 := hb2.fr x2 (by omega) (fun a h1 h2 => by omega) ⟨fun h => h, fun h => h⟩
              have m3 := hb3.2.2 _ _ hm2
              have hF3 := hF2.tr (x2.w (fun a h => by omega) (fun a h => by omega) (fun _ h => h.elim))
              simp only [f_kG, psh, Nat.reduceAdd]
              refine G_w (pfb_ok X) LK_145 (fun i => i == 90) 40 _ _ _ _ ?_
              simp only [f_0, f_s, f_iconst, f_bipush, f_sipush, f_ldc, f_ldc_w, f_ldc2_w, f_ldI, f_ldL, f_ldA, f_iload, f_iload_n, f_lload, f_lload_n, f_aload, f_aload_n, f_istore, f_istore_n, f_lstore, f_lstore_n, f_astore, f_astore_n, f_iinc, f_icI, f_iadd, f_isub, f_imul, f_idiv, f_irem, f_iand, f_ior, f_ixor, f_ishl, f_ishr, f_iushr, f_i2l, f_i2b, f_i2s, f_ladd, f_lmul, f_lcmp, f_dupI, f_dupR, f_dup2, f_pop, f_goto, f_if, f_icmp, f_tab, f_ts0, f_ts1, f_getI, f_getZ, f_getR, f_putI, f_putR, f_gets, f_iald, f_bald, f_aald, f_iast, f_bast, f_aast, f_alen, f_new, f_newa, f_anew, f_virt, f_stat0, f_stat1, f_spec0, f_spec1, f_spec9, f_copy, f_max, f_min, f_cV1, f_cV0, f_cS1, f_cS0, f_iret, f_lret, f_vret, f_kG, pf0, cIg, inR, lget, lset, lset2, clr, entL, cnd, psh, catS, tsw, List.take_succ_cons, List.take_zero, List.drop_succ_cons, List.drop_zero, List.reverse_cons, List.reverse_nil, List.nil_append, List.cons_append, List.length_cons, List.length_nil, List.replicate_succ, List.replicate_zero, Nat.reduceAdd, Nat.reduceSub, Nat.reduceLeDiff, Nat.reduceLT, Nat.reduceEqDiff, Nat.reduceMul, Nat.zero_add, Nat.add_zero, Nat.le_refl, Nat.zero_le, Int.reduceEq, Int.reduceToNat, Int.toNat_natCast, Int.reduceNeg, Int.reduceAdd, Int.reduceSub, Int.reduceMul, Int.reduceLT, Int.reduceLE, Int.reduceDiv, Int.reduceMod, Bool.false_eq_true, ↓reduceIte, true_and, and_true, implies_true, forall_const, true_or, or_true, or_false, false_or, not_true_eq_false, not_false_eq_true, false_implies, Prod.mk.injEq, Fin.val_zero, Fin.val_one, Fin.isValue, Fin.reduceFinMk, Fin.val_two, mR_uI, mK_uI, mN_uI, mI_uR, mK_uR, mN_uR, mR_uC, mK_uC, mN_uC, Option.some.injEq, Sum.inl.injEq, Sum.inr.injEq, decide_true, decide_false, Bool.or_false, Bool.false_or, Bool.or_true, Bool.true_or, Nat.reduceBEq, beq_self_eq_true, show tb 145 = tb_145 from rfl, tb_145, tb_145_0, tb_145_1, tb_145_2, pfb, pfb_b, pfb_c, pfb_v, pfa_b, pfa_c, pfa_v, hs3.mr1, hs3.mr2, hs3.mr3, hs3.mr4, hs3.mr5, hs3.mr14, hs3.mr15, hs3.mr16, hs3.mr18, hs3.mr19, hs3.mr20, hs3.mr21, hs3.mr22, hs3.mr23, hs3.mk521, hs3.mk522, hs3.mn522, hs3.mk523, hs3.mn523, hs3.mk524, hs3.mn524, hs3.mk525, hs3.mn525, hs3.mk526, hs3.mn526, hs3.mk527, hs3.mn527, hs3.mk528, hs3.mn528, hs3.mk529, hs3.mn529, hs3.mk530, hs3.mn530, hs3.mk531, hs3.mn531, hs3.mk532, hs3.mn532, hs3.mk533, hs3.mn533, hs3.mk534, hs3.mn534, hs3.mk535, hs3.mn535, m3]
              refine ⟨by omega, by omega, ?_⟩
              refine onward _ (b'.1, b'.2.1, senb b'.2.2 l) _ ⟨ok'.1, ok'.2.1, ok'.2.2.1, ?_⟩ hb3.set ?_ ?_ (hF3.uc (Or.inl rfl) (by omega))
              · have hq := senb_b sn (by have := ok'.2.2.2.2; omega) l (by omega)
                rw [← hsn] at hq
                exact hq
              · exact x1.fr ((Fr.rf M3 NN NN (fun a => a = 527)).uc rfl (by omega)) (fun h => h) (fun _ _ h => h)
              · rw [mI_uI_ne (by omega)]; exact (x2.2.1 13 (by omega)).trans hw2
          · rw [if_neg hbr] at hr ⊢
            obtain ⟨rfl, x1, x2⟩ := hr
            simp only [f_kG, psh, Nat.reduceAdd]
            refine G_w (pfb_ok X) LK_145 (fun i => i == 90) 40 _ _ _ _ ?_
            simp only [f_0, f_s, f_iconst, f_bipush, f_sipush, f_ldc, f_ldc_w, f_ldc2_w, f_ldI, f_ldL, f_ldA, f_iload, f_iload_n, f_lload, f_lload_n, f_aload, f_aload_n, f_istore, f_istore_n, f_lstore, f_lstore_n, f_astore, f_astore_n, f_iinc, f_icI, f_iadd, f_isub, f_imul, f_idiv, f_irem, f_iand, f_ior, f_ixor, f_ishl, f_ishr, f_iushr, f_i2l, f_i2b, f_i2s, f_ladd, f_lmul, f_lcmp, f_dupI, f_dupR, f_dup2, f_pop, f_goto, f_if, f_icmp, f_tab, f_ts0, f_ts1, f_getI, f_getZ, f_getR, f_putI, f_putR, f_gets, f_iald, f_bald, f_aald, f_iast, f_bast, f_aast, f_alen, f_new, f_newa, f_anew, f_virt, f_stat0, f_stat1, f_spec0, f_spec1, f_spec9, f_copy, f_max, f_min, f_cV1, f_cV0, f_cS1, f_cS0, f_iret, f_lret, f_vret, f_kG, pf0, cIg, inR, lget, lset, lset2, clr, entL, cnd, psh, catS, tsw, List.take_succ_cons, List.take_zero, List.drop_succ_cons, List.drop_zero, List.reverse_cons, List.reverse_nil, List.nil_append, List.cons_append, List.length_cons, List.length_nil, List.replicate_succ, List.replicate_zero, Nat.reduceAdd, Nat.reduceSub, Nat.reduceLeDiff, Nat.reduceLT, Nat.reduceEqDiff, Nat.reduceMul, Nat.zero_add, Nat.add_zero, Nat.le_refl, Nat.zero_le, Int.reduceEq, Int.reduceToNat, Int.toNat_natCast, Int.reduceNeg, Int.reduceAdd, Int.reduceSub, Int.reduceMul, Int.reduceLT, Int.reduceLE, Int.reduceDiv, Int.reduceMod, Bool.false_eq_true, ↓reduceIte, true_and, and_true, implies_true, forall_const, true_or, or_true, or_false, false_or, not_true_eq_false, not_false_eq_true, false_implies, Prod.mk.injEq, Fin.val_zero, Fin.val_one, Fin.isValue, Fin.reduceFinMk, Fin.val_two, mR_uI, mK_uI, mN_uI, mI_uR, mK_uR, mN_uR, mR_uC, mK_uC, mN_uC, Option.some.injEq, Sum.inl.injEq, Sum.inr.injEq, decide_true, decide_false, Bool.or_false, Bool.false_or, Bool.or_true, Bool.true_or, Nat.reduceBEq, beq_self_eq_true, show tb 145 = tb_145 from rfl, tb_145, tb_145_0, tb_145_1, tb_145_2, pfb, pfb_b, pfb_c, pfb_v, pfa_b, pfa_c, pfa_v]
            exact stop M3 2 (by omega) (x2.shp hs2) x1 ((x2.2.1 10 (by omega)).trans d1) (hF2.tr (x2.w (fun a h => by omega) (fun a h => by omega) (fun _ h => h.elim))) (b', pl)
        · have hif : (if iAnd (iShr (iOr b'.2.1 b'.2.2) l) 1 = 1 then (1 : Int) else 0) = 1 := if_pos (by omega)
          rw [if_neg hbit]
          refine G_w (pfb_ok X) LK_145 (fun i => i == 57 || i == 90) 40 _ _ _ _ ?_
          simp only [f_0, f_s, f_iconst, f_bipush, f_sipush, f_ldc, f_ldc_w, f_ldc2_w, f_ldI, f_ldL, f_ldA, f_iload, f_iload_n, f_lload, f_lload_n, f_aload, f_aload_n, f_istore, f_istore_n, f_lstore, f_lstore_n, f_astore, f_astore_n, f_iinc, f_icI, f_iadd, f_isub, f_imul, f_idiv, f_irem, f_iand, f_ior, f_ixor, f_ishl, f_ishr, f_iushr, f_i2l, f_i2b, f_i2s, f_ladd, f_lmul, f_lcmp, f_dupI, f_dupR, f_dup2, f_pop, f_goto, f_if, f_icmp, f_tab, f_ts0, f_ts1, f_getI, f_getZ, f_getR, f_putI, f_putR, f_gets, f_iald, f_bald, f_aald, f_iast, f_bast, f_aast, f_alen, f_new, f_newa, f_anew, f_virt, f_stat0, f_stat1, f_spec0, f_spec1, f_spec9, f_copy, f_max, f_min, f_cV1, f_cV0, f_cS1, f_cS0, f_iret, f_lret, f_vret, f_kG, pf0, cIg, inR, lget, lset, lset2, clr, entL, cnd, psh, catS, tsw, List.take_succ_cons, List.take_zero, List.drop_succ_cons, List.drop_zero, List.reverse_cons, List.reverse_nil, List.nil_append, List.cons_append, List.length_cons, List.length_nil, List.replicate_succ, List.replicate_zero, Nat.reduceAdd, Nat.reduceSub, Nat.reduceLeDiff, Nat.reduceLT, Nat.reduceEqDiff, Nat.reduceMul, Nat.zero_add, Nat.add_zero, Nat.le_refl, Nat.zero_le, Int.reduceEq, Int.reduceToNat, Int.toNat_natCast, Int.reduceNeg, Int.reduceAdd, Int.reduceSub, Int.reduceMul, Int.reduceLT, Int.reduceLE, Int.reduceDiv, Int.reduceMod, Bool.false_eq_true, ↓reduceIte, true_and, and_true, implies_true, forall_const, true_or, or_true, or_false, false_or, not_true_eq_false, not_false_eq_true, false_implies, Prod.mk.injEq, Fin.val_zero, Fin.val_one, Fin.isValue, Fin.reduceFinMk, Fin.val_two, mR_uI, mK_uI, mN_uI, mI_uR, mK_uR, mN_uR, mR_uC, mK_uC, mN_uC, Option.some.injEq, Sum.inl.injEq, Sum.inr.injEq, decide_true, decide_false, Bool.or_false, Bool.false_or, Bool.or_true, Bool.true_or, Nat.reduceBEq, beq_self_eq_true, show tb 145 = tb_145 from rfl, tb_145, tb_145_0, tb_145_1, tb_145_2, pfb, pfb_b, pfb_c, pfb_v, pfa_b, pfa_c, pfa_v, hs2.mr1, hs2.mr2, hs2.mr3, hs2.mr4, hs2.mr5, hs2.mr14, hs2.mr15, hs2.mr16, hs2.mr18, hs2.mr19, hs2.mr20, hs2.mr21, hs2.mr22, hs2.mr23, hs2.mk521, hs2.mk522, hs2.mn522, hs2.mk523, hs2.mn523, hs2.mk524, hs2.mn524, hs2.mk525, hs2.mn525, hs2.mk526, hs2.mn526, hs2.mk527, hs2.mn527, hs2.mk528, hs2.mn528, hs2.mk529, hs2.mn529, hs2.mk530, hs2.mn530, hs2.mk531, hs2.mn531, hs2.mk532, hs2.mn532, hs2.mk533, hs2.mn533, hs2.mk534, hs2.mn534, hs2.mk535, hs2.mn535, hl9, hw2, g2, m2, hif]
          exact ⟨by omega, by omega, onward M2 b' pl ok' hb2 hR2 hw2 hF2⟩
    rw [prF_cons]
    refine G_w (pfb_ok X) LK_145 (fun i => i == 57) 40 _ _ _ _ ?_
    simp only [f_0, f_s, f_iconst, f_bipush, f_sipush, f_ldc, f_ldc_w, f_ldc2_w, f_ldI, f_ldL, f_ldA, f_iload, f_iload_n, f_lload, f_lload_n, f_aload, f_aload_n, f_istore, f_istore_n, f_lstore, f_lstore_n, f_astore, f_astore_n, f_iinc, f_icI, f_iadd, f_isub, f_imul, f_idiv, f_irem, f_iand, f_ior, f_ixor, f_ishl, f_ishr, f_iushr, f_i2l, f_i2b, f_i2s, f_ladd, f_lmul, f_lcmp, f_dupI, f_dupR, f_dup2, f_pop, f_goto, f_if, f_icmp, f_tab, f_ts0, f_ts1, f_getI, f_getZ, f_getR, f_putI, f_putR, f_gets, f_iald, f_bald, f_aald, f_iast, f_bast, f_aast, f_alen, f_new, f_newa, f_anew, f_virt, f_stat0, f_stat1, f_spec0, f_spec1, f_spec9, f_copy, f_max, f_min, f_cV1, f_cV0, f_cS1, f_cS0, f_iret, f_lret, f_vret, f_kG, pf0, cIg, inR, lget, lset, lset2, clr, entL, cnd, psh, catS, tsw, List.take_succ_cons, List.take_zero, List.drop_succ_cons, List.drop_zero, List.reverse_cons, List.reverse_nil, List.nil_append, List.cons_append, List.length_cons, List.length_nil, List.replicate_succ, List.replicate_zero, Nat.reduceAdd, Nat.reduceSub, Nat.reduceLeDiff, Nat.reduceLT, Nat.reduceEqDiff, Nat.reduceMul, Nat.zero_add, Nat.add_zero, Nat.le_refl, Nat.zero_le, Int.reduceEq, Int.reduceToNat, Int.toNat_natCast, Int.reduceNeg, Int.reduceAdd, Int.reduceSub, Int.reduceMul, Int.reduceLT, Int.reduceLE, Int.reduceDiv, Int.reduceMod, Bool.false_eq_true, ↓reduceIte, true_and, and_true, implies_true, forall_const, true_or, or_true, or_false, false_or, not_true_eq_false, not_false_eq_true, false_implies, Prod.mk.injEq, Fin.val_zero, Fin.val_one, Fin.isValue, Fin.reduceFinMk, Fin.val_two, mR_uI, mK_uI, mN_uI, mI_uR, mK_uR, mN_uR, mR_uC, mK_uC, mN_uC, Option.some.injEq, Sum.inl.injEq, Sum.inr.injEq, decide_true, decide_false, Bool.or_false, Bool.false_or, Bool.or_true, Bool.true_or, Nat.reduceBEq, beq_self_eq_true, show tb 145 = tb_145 from rfl, tb_145, tb_145_0, tb_145_1, tb_145_2, pfb, pfb_b, pfb_c, pfb_v, pfa_b, pfa_c, pfa_v, hs1.mr1, hs1.mr2, hs1.mr3, hs1.mr4, hs1.mr5, hs1.mr14, hs1.mr15, hs1.mr16, hs1.mr18, hs1.mr19, hs1.mr20, hs1.mr21, hs1.mr22, hs1.mr23, hs1.mk521, hs1.mk522, hs1.mn522, hs1.mk523, hs1.mn523, hs1.mk524, hs1.mn524, hs1.mk525, hs1.mn525, hs1.mk526, hs1.mn526, hs1.mk527, hs1.mn527, hs1.mk528, hs1.mn528, hs1.mk529, hs1.mn529, hs1.mk530, hs1.mn530, hs1.mk531, hs1.mn531, hs1.mk532, hs1.mn532, hs1.mk533, hs1.mn533, hs1.mk534, hs1.mn534, hs1.mk535, hs1.mn535, c1, hge, hw, g1, m1]
    refine ⟨by omega, by omega, by omega, ?_⟩
    obtain ⟨n, hn⟩ := Int.eq_ofNat_of_zero_le okbb.2.2.1.1
    obtain ⟨m, hm9⟩ := Int.eq_ofNat_of_zero_le okbb.2.2.2.1
    have hu := ungd_b n (by have := okbb.2.2.1.2; omega) m (by have := okbb.2.2.2.2; omega)
    rw [← hn, ← hm9] at hu
    refine inner 3 0 (b.1, b.2.1, ungd b.2.1 b.2.2) pl _ rfl ⟨okbb.1, okbb.2.1, okbb.2.2.1, hu⟩ hb.set ?_ ?_ (hF.uc (Or.inl rfl) (by omega))
    · exact hR.fr ((Fr.rf M1 NN NN (fun a => a = 527)).uc rfl (by omega)) (fun h => h) (fun _ _ h => h)
    · rw [mI_uI_ne (by omega)]; exact hw
/-- entering: 3 where there is no room -/
def entF (t : Po) (bs : List Mb) (pl : List Po) : Int × List Mb × List Po := match admF t bs pl with
  | none => (3, bs, pl)
  | some (bs', pl') => prF bs' [] pl'
set_option maxRecDepth 100000 in
set_option maxHeartbeats 4000000 in
theorem e_enters (X : CX) (M : Mem) (t : Po) (bs : List Mb) (pl : List Po) (hs : Shp M) (hT : TP M 7 t) (okt : okP t ∧ t ≠ []) (hb : RBx M bs) (hR : RP M pl) (hok : okB bs) (hne : ∀ b ∈ bs, hd b.1 ≠ hd t) (hw : mI M 521 13 = 0) (hpl : okL pl) : Ev X y_m_enters (0, 0) [aR (some 521)] M (EN M (entF t bs pl)) := by
  refine Ev_of mcd_145 mok_145 (by decide) rfl (Nat.le_of_ble_eq_true rfl) ?_
  rw [show yl 145 = 3 from rfl]
  refine G_w (pfb_ok X) LK_145 (fun i => false) 10 _ _ _ _ ?_
  simp only [f_0, f_s, f_iconst, f_bipush, f_sipush, f_ldc, f_ldc_w, f_ldc2_w, f_ldI, f_ldL, f_ldA, f_iload, f_iload_n, f_lload, f_lload_n, f_aload, f_aload_n, f_istore, f_istore_n, f_lstore, f_lstore_n, f_astore, f_astore_n, f_iinc, f_icI, f_iadd, f_isub, f_imul, f_idiv, f_irem, f_iand, f_ior, f_ixor, f_ishl, f_ishr, f_iushr, f_i2l, f_i2b, f_i2s, f_ladd, f_lmul, f_lcmp, f_dupI, f_dupR, f_dup2, f_pop, f_goto, f_if, f_icmp, f_tab, f_ts0, f_ts1, f_getI, f_getZ, f_getR, f_putI, f_putR, f_gets, f_iald, f_bald, f_aald, f_iast, f_bast, f_aast, f_alen, f_new, f_newa, f_anew, f_virt, f_stat0, f_stat1, f_spec0, f_spec1, f_spec9, f_copy, f_max, f_min, f_cV1, f_cV0, f_cS1, f_cS0, f_iret, f_lret, f_vret, f_kG, pf0, cIg, inR, lget, lset, lset2, clr, entL, cnd, psh, catS, tsw, List.take_succ_cons, List.take_zero, List.drop_succ_cons, List.drop_zero, List.reverse_cons, List.reverse_nil, List.nil_append, List.cons_append, List.length_cons, List.length_nil, List.replicate_succ, List.replicate_zero, Nat.reduceAdd, Nat.reduceSub, Nat.reduceLeDiff, Nat.reduceLT, Nat.reduceEqDiff, Nat.reduceMul, Nat.zero_add, Nat.add_zero, Nat.le_refl, Nat.zero_le, Int.reduceEq, Int.reduceToNat, Int.toNat_natCast, Int.reduceNeg, Int.reduceAdd, Int.reduceSub, Int.reduceMul, Int.reduceLT, Int.reduceLE, Int.reduceDiv, Int.reduceMod, Bool.false_eq_true, ↓reduceIte, true_and, and_true, implies_true, forall_const, true_or, or_true, or_false, false_or, not_true_eq_false, not_false_eq_true, false_implies, Prod.mk.injEq, Fin.val_zero, Fin.val_one, Fin.isValue, Fin.reduceFinMk, Fin.val_two, mR_uI, mK_uI, mN_uI, mI_uR, mK_uR, mN_uR, mR_uC, mK_uC, mN_uC, Option.some.injEq, Sum.inl.injEq, Sum.inr.injEq, decide_true, decide_false, Bool.or_false, Bool.false_or, Bool.or_true, Bool.true_or, Nat.reduceBEq, beq_self_eq_true, show tb 145 = tb_145 from rfl, tb_145, tb_145_0, tb_145_1, tb_145_2, pfb, pfb_b, pfb_c, pfb_v, pfa_b, pfa_c, pfa_v, hs.mk521]
  refine Ev_mono (e_goOut X M t bs pl hs hT okt hb.1 hb.2.2 hR (fun b h => ⟨(hok b h).1, (hok b h).2.1⟩) hne) (fun r M1 hr _ _ => ?_)
  obtain ⟨hF, hr⟩ := hr
  have hs1 := hF.shp hs
  have hF1 : Fr M M1 EP EF EC := hF.w (fun a h => by unfold EP; omega) (fun a h => h) (fun a h => Or.inl h)
  cases hA : admL (hd t) bs [] pl with
  | none =>
    rw [hA] at hr
    obtain ⟨rfl, h13⟩ := hr
    have he : entF t bs pl = (3, bs, pl) := by unfold entF admF; rw [hA]; rfl
    rw [he]
    simp only [f_kG, psh, Nat.reduceAdd]
    refine G_w (pfb_ok X) LK_145 (fun i => false) 10 _ _ _ _ ?_
    simp only [f_0, f_s, f_iconst, f_bipush, f_sipush, f_ldc, f_ldc_w, f_ldc2_w, f_ldI, f_ldL, f_ldA, f_iload, f_iload_n, f_lload, f_lload_n, f_aload, f_aload_n, f_istore, f_istore_n, f_lstore, f_lstore_n, f_astore, f_astore_n, f_iinc, f_icI, f_iadd, f_isub, f_imul, f_idiv, f_irem, f_iand, f_ior, f_ixor, f_ishl, f_ishr, f_iushr, f_i2l, f_i2b, f_i2s, f_ladd, f_lmul, f_lcmp, f_dupI, f_dupR, f_dup2, f_pop, f_goto, f_if, f_icmp, f_tab, f_ts0, f_ts1, f_getI, f_getZ, f_getR, f_putI, f_putR, f_gets, f_iald, f_bald, f_aald, f_iast, f_bast, f_aast, f_alen, f_new, f_newa, f_anew, f_virt, f_stat0, f_stat1, f_spec0, f_spec1, f_spec9, f_copy, f_max, f_min, f_cV1, f_cV0, f_cS1, f_cS0, f_iret, f_lret, f_vret, f_kG, pf0, cIg, inR, lget, lset, lset2, clr, entL, cnd, psh, catS, tsw, List.take_succ_cons, List.take_zero, List.drop_succ_cons, List.drop_zero, List.reverse_cons, List.reverse_nil, List.nil_append, List.cons_append, List.length_cons, List.length_nil, List.replicate_succ, List.replicate_zero, Nat.reduceAdd, Nat.reduceSub, Nat.reduceLeDiff, Nat.reduceLT, Nat.reduceEqDiff, Nat.reduceMul, Nat.zero_add, Nat.add_zero, Nat.le_refl, Nat.zero_le, Int.reduceEq, Int.reduceToNat, Int.toNat_natCast, Int.reduceNeg, Int.reduceAdd, Int.reduceSub, Int.reduceMul, Int.reduceLT, Int.reduceLE, Int.reduceDiv, Int.reduceMod, Bool.false_eq_true, ↓reduceIte, true_and, and_true, implies_true, forall_const, true_or, or_true, or_false, false_or, not_true_eq_false, not_false_eq_true, false_implies, Prod.mk.injEq, Fin.val_zero, Fin.val_one, Fin.isValue, Fin.reduceFinMk, Fin.val_two, mR_uI, mK_uI, mN_uI, mI_uR, mK_uR, mN_uR, mR_uC, mK_uC, mN_uC, Option.some.injEq, Sum.inl.injEq, Sum.inr.injEq, decide_true, decide_false, Bool.or_false, Bool.false_or, Bool.or_true, Bool.true_or, Nat.reduceBEq, beq_self_eq_true, show tb 145 = tb_145 from rfl, tb_145, tb_145_0, tb_145_1, tb_145_2, pfb, pfb_b, pfb_c, pfb_v, pfa_b, pfa_c, pfa_v]
    exact ⟨rfl, hF1, h13, fun h => by simp at h⟩
  | some x =>
    obtain ⟨A, pl1⟩ := x
    rw [hA] at hr
    obtain ⟨rfl, h13, w1, w2, w3⟩ := hr
    have c1 := w1.1
    have c2 := w1.2.1
    obtain ⟨okA, okp1⟩ := admL_ok (hd t) bs [] pl A pl1 hok (fun x hx => by cases hx) hpl hA
    by_cases h24 : (A.length : Int) = 24
    · have he : entF t bs pl = (3, bs, pl) := by unfold entF admF; rw [hA, admE, if_pos (by omega)]
      rw [he]
      simp only [f_kG, psh, Nat.reduceAdd]
      refine G_w (pfb_ok X) LK_145 (fun i => false) 20 _ _ _ _ ?_
      simp only [f_0, f_s, f_iconst, f_bipush, f_sipush, f_ldc, f_ldc_w, f_ldc2_w, f_ldI, f_ldL, f_ldA, f_iload, f_iload_n, f_lload, f_lload_n, f_aload, f_aload_n, f_istore, f_istore_n, f_lstore, f_lstore_n, f_astore, f_astore_n, f_iinc, f_icI, f_iadd, f_isub, f_imul, f_idiv, f_irem, f_iand, f_ior, f_ixor, f_ishl, f_ishr, f_iushr, f_i2l, f_i2b, f_i2s, f_ladd, f_lmul, f_lcmp, f_dupI, f_dupR, f_dup2, f_pop, f_goto, f_if, f_icmp, f_tab, f_ts0, f_ts1, f_getI, f_getZ, f_getR, f_putI, f_putR, f_gets, f_iald, f_bald, f_aald, f_iast, f_bast, f_aast, f_alen, f_new, f_newa, f_anew, f_virt, f_stat0, f_stat1, f_spec0, f_spec1, f_spec9, f_copy, f_max, f_min, f_cV1, f_cV0, f_cS1, f_cS0, f_iret, f_lret, f_vret, f_kG, pf0, cIg, inR, lget, lset, lset2, clr, entL, cnd, psh, catS, tsw, List.take_succ_cons, List.take_zero, List.drop_succ_cons, List.drop_zero, List.reverse_cons, List.reverse_nil, List.nil_append, List.cons_append, List.length_cons, List.length_nil, List.replicate_succ, List.replicate_zero, Nat.reduceAdd, Nat.reduceSub, Nat.reduceLeDiff, Nat.reduceLT, Nat.reduceEqDiff, Nat.reduceMul, Nat.zero_add, Nat.add_zero, Nat.le_refl, Nat.zero_le, Int.reduceEq, Int.reduceToNat, Int.toNat_natCast, Int.reduceNeg, Int.reduceAdd, Int.reduceSub, Int.reduceMul, Int.reduceLT, Int.reduceLE, Int.reduceDiv, Int.reduceMod, Bool.false_eq_true, ↓reduceIte, true_and, and_true, implies_true, forall_const, true_or, or_true, or_false, false_or, not_true_eq_false, not_false_eq_true, false_implies, Prod.mk.injEq, Fin.val_zero, Fin.val_one, Fin.isValue, Fin.reduceFinMk, Fin.val_two, mR_uI, mK_uI, mN_uI, mI_uR, mK_uR, mN_uR, mR_uC, mK_uC, mN_uC, Option.some.injEq, Sum.inl.injEq, Sum.inr.injEq, decide_true, decide_false, Bool.or_false, Bool.false_or, Bool.or_true, Bool.true_or, Nat.reduceBEq, beq_self_eq_true, show tb 145 = tb_145 from rfl, tb_145, tb_145_0, tb_145_1, tb_145_2, pfb, pfb_b, pfb_c, pfb_v, pfa_b, pfa_c, pfa_v, hs1.mk521, c1, h24]
      exact ⟨rfl, hF1.uf (by unfold EF; omega), mI_uI_eq, fun h => by simp at h⟩
    · have he : entF t bs pl = prF ((A ++ [(t, 0, 0)]).map (setG ((A ++ [(t, 0, 0)]).map (fun b : Mb => hd b.1)))) [] pl1 := by unfold entF admF; rw [hA, admE, if_neg (by omega)]
      rw [he]
      have hT1 : TP M1 7 t := hT.fr hF (by omega) (by omega)
      simp only [f_kG, psh, Nat.reduceAdd]
      refine G_w (pfb_ok X) LK_145 (fun i => false) 20 _ _ _ _ ?_
      simp only [f_0, f_s, f_iconst, f_bipush, f_sipush, f_ldc, f_ldc_w, f_ldc2_w, f_ldI, f_ldL, f_ldA, f_iload, f_iload_n, f_lload, f_lload_n, f_aload, f_aload_n, f_istore, f_istore_n, f_lstore, f_lstore_n, f_astore, f_astore_n, f_iinc, f_icI, f_iadd, f_isub, f_imul, f_idiv, f_irem, f_iand, f_ior, f_ixor, f_ishl, f_ishr, f_iushr, f_i2l, f_i2b, f_i2s, f_ladd, f_lmul, f_lcmp, f_dupI, f_dupR, f_dup2, f_pop, f_goto, f_if, f_icmp, f_tab, f_ts0, f_ts1, f_getI, f_getZ, f_getR, f_putI, f_putR, f_gets, f_iald, f_bald, f_aald, f_iast, f_bast, f_aast, f_alen, f_new, f_newa, f_anew, f_virt, f_stat0, f_stat1, f_spec0, f_spec1, f_spec9, f_copy, f_max, f_min, f_cV1, f_cV0, f_cS1, f_cS0, f_iret, f_lret, f_vret, f_kG, pf0, cIg, inR, lget, lset, lset2, clr, entL, cnd, psh, catS, tsw, List.take_succ_cons, List.take_zero, List.drop_succ_cons, List.drop_zero, List.reverse_cons, List.reverse_nil, List.nil_append, List.cons_append, List.length_cons, List.length_nil, List.replicate_succ, List.replicate_zero, Nat.reduceAdd, Nat.reduceSub, Nat.reduceLeDiff, Nat.reduceLT, Nat.reduceEqDiff, Nat.reduceMul, Nat.zero_add, Nat.add_zero, Nat.le_refl, Nat.zero_le, Int.reduceEq, Int.reduceToNat, Int.toNat_natCast, Int.reduceNeg, Int.reduceAdd, Int.reduceSub, Int.reduceMul, Int.reduceLT, Int.reduceLE, Int.reduceDiv, Int.reduceMod, Bool.false_eq_true, ↓reduceIte, true_and, and_true, implies_true, forall_const, true_or, or_true, or_false, false_or, not_true_eq_false, not_false_eq_true, false_implies, Prod.mk.injEq, Fin.val_zero, Fin.val_one, Fin.isValue, Fin.reduceFinMk, Fin.val_two, mR_uI, mK_uI, mN_uI, mI_uR, mK_uR, mN_uR, mR_uC, mK_uC, mN_uC, Option.some.injEq, Sum.inl.injEq, Sum.inr.injEq, decide_true, decide_false, Bool.or_false, Bool.false_or, Bool.or_true, Bool.true_or, Nat.reduceBEq, beq_self_eq_true, show tb 145 = tb_145 from rfl, tb_145, tb_145_0, tb_145_1, tb_145_2, pfb, pfb_b, pfb_c, pfb_v, pfa_b, pfa_c, pfa_v, hs1.mk521, c1, h24]
      refine ⟨by omega, ?_⟩
      have e7 : (7 : Int) = ((7 : Nat) : Int) := rfl
      have e9 : (8 : Int) + (A.length : Int) = ((8 + A.length : Nat) : Int) := by omega
      rw [e9, e7]
      refine Ev_mono (e_copies X M1 7 (8 + A.length) t hs1 hT1 (by omega) (by omega)) (fun r M2 hr _ _ => ?_)
      obtain ⟨rfl, x1, x2⟩ := hr
      have hs2 := x2.shp hs1
      have d1 := (x2.2.1 10 (fun h => h)).trans c1
      have d2 : mI (uI M2 527 A.length 0) 521 10 = A.length := (mI_uI_ne (by omega)).trans d1
      simp only [f_kG, psh, Nat.reduceAdd]
      refine G_w (pfb_ok X) LK_145 (fun i => false) 20 _ _ _ _ ?_
      simp only [f_0, f_s, f_iconst, f_bipush, f_sipush, f_ldc, f_ldc_w, f_ldc2_w, f_ldI, f_ldL, f_ldA, f_iload, f_iload_n, f_lload, f_lload_n, f_aload, f_aload_n, f_istore, f_istore_n, f_lstore, f_lstore_n, f_astore, f_astore_n, f_iinc, f_icI, f_iadd, f_isub, f_imul, f_idiv, f_irem, f_iand, f_ior, f_ixor, f_ishl, f_ishr, f_iushr, f_i2l, f_i2b, f_i2s, f_ladd, f_lmul, f_lcmp, f_dupI, f_dupR, f_dup2, f_pop, f_goto, f_if, f_icmp, f_tab, f_ts0, f_ts1, f_getI, f_getZ, f_getR, f_putI, f_putR, f_gets, f_iald, f_bald, f_aald, f_iast, f_bast, f_aast, f_alen, f_new, f_newa, f_anew, f_virt, f_stat0, f_stat1, f_spec0, f_spec1, f_spec9, f_copy, f_max, f_min, f_cV1, f_cV0, f_cS1, f_cS0, f_iret, f_lret, f_vret, f_kG, pf0, cIg, inR, lget, lset, lset2, clr, entL, cnd, psh, catS, tsw, List.take_succ_cons, List.take_zero, List.drop_succ_cons, List.drop_zero, List.reverse_cons, List.reverse_nil, List.nil_append, List.cons_append, List.length_cons, List.length_nil, List.replicate_succ, List.replicate_zero, Nat.reduceAdd, Nat.reduceSub, Nat.reduceLeDiff, Nat.reduceLT, Nat.reduceEqDiff, Nat.reduceMul, Nat.zero_add, Nat.add_zero, Nat.le_refl, Nat.zero_le, Int.reduceEq, Int.reduceToNat, Int.toNat_natCast, Int.reduceNeg, Int.reduceAdd, Int.reduceSub, Int.reduceMul, Int.reduceLT, Int.reduceLE, Int.reduceDiv, Int.reduceMod, Bool.false_eq_true, ↓reduceIte, true_and, and_true, implies_true, forall_const, true_or, or_true, or_false, false_or, not_true_eq_false, not_false_eq_true, false_implies, Prod.mk.injEq, Fin.val_zero, Fin.val_one, Fin.isValue, Fin.reduceFinMk, Fin.val_two, mR_uI, mK_uI, mN_uI, mI_uR, mK_uR, mN_uR, mR_uC, mK_uC, mN_uC, Option.some.injEq, Sum.inl.injEq, Sum.inr.injEq, decide_true, decide_false, Bool.or_false, Bool.false_or, Bool.or_true, Bool.true_or, Nat.reduceBEq, beq_self_eq_true, show tb 145 = tb_145 from rfl, tb_145, tb_145_0, tb_145_1, tb_145_2, pfb, pfb_b, pfb_c, pfb_v, pfa_b, pfa_c, pfa_v, hs2.mk521, hs2.mr14, hs2.mk527, hs2.mn527, d1, d2]
      have hF3 : Fr M2 (uI (uI M2 527 A.length 0) 521 10 (A.length + 1)) NN (fun k => k = 10) (fun a => a = 527) := Fr.uf (F := fun k => k = 10) ((Fr.rf M2 NN (fun k => k = 10) (fun a => a = 527)).uc rfl (by omega)) rfl
      have d3 : mI (uI (uI M2 527 A.length 0) 521 10 (A.length + 1)) 521 10 = A.length + 1 := mI_uI_eq
      have d4 : ∀ j, j ≠ A.length → mI (uI (uI M2 527 A.length 0) 521 10 (A.length + 1)) 527 j = mI M2 527 j := fun j hj => (mI_uI_ne (by omega)).trans (mI_uI_nk hj)
      have d5 : mI (uI (uI M2 527 A.length 0) 521 10 (A.length + 1)) 527 A.length = 0 := (mI_uI_ne (by omega)).trans mI_uI_eq
      have d6 : mI (uI (uI M2 527 A.length 0) 521 10 (A.length + 1)) 521 13 = mI M2 521 13 := (mI_uI_nk (by omega)).trans (mI_uI_ne (by omega))
      generalize uI (uI M2 527 A.length 0) 521 10 (A.length + 1) = M3 at hF3 d3 d4 d5 d6 ⊢
      have hs3 := hF3.shp hs2
      have hF13 : Fr M1 M3 (fun a => a = 8 + A.length) (fun k => k = 10) (fun a => a = 527) := (x2.w (fun _ h => h) (fun _ h => h.elim) (fun _ h => h.elim)).tr (hF3.w (fun _ h => h.elim) (fun _ h => h) (fun _ h => h))
      have hlen : (A ++ [(t, (0 : Int), (0 : Int))]).length = A.length + 1 := by rw [List.length_append]; rfl
      have hbt : RBt M3 (A ++ [(t, 0, 0)]) := by
        refine ⟨by rw [d3, hlen]; omega, by omega, fun j b hj => ?_⟩
        by_cases hjl : j < A.length
        · rw [List.getElem?_append_left hjl] at hj
          exact (w1.2.2 j b hj).fr hF13 (by omega) (by omega)
        · have hj2 := (List.getElem?_eq_some_iff.mp hj).1
          have hj3 : j = A.length := by omega
          subst hj3
          rw [List.getElem?_append_right (Nat.le_refl _), Nat.sub_self, List.getElem?_cons_zero, Option.some.injEq] at hj
          subst hj
          exact x1.fr hF3 (by omega) (fun h => h)
      have hok1 : ∀ b ∈ A ++ [(t, (0 : Int), (0 : Int))], okP b.1 ∧ b.1 ≠ [] := fun b hb9 => by
        rcases List.mem_append.mp hb9 with h | h
        · exact ⟨(okA b h).1, (okA b h).2.1⟩
        · rw [List.mem_singleton.mp h]; exact okt
      refine ⟨⟨by omega, by omega⟩, by omega, ?_⟩
      refine Ev_mono (e_findsGood X M3 _ hs3 hbt hok1) (fun r M4 hr _ _ => ?_)
      obtain ⟨rfl, y1, y2⟩ := hr
      simp only [f_kG, psh, Nat.reduceAdd]
      refine G_w (pfb_ok X) LK_145 (fun i => i == 35) 20 _ _ _ _ ?_
      simp only [f_0, f_s, f_iconst, f_bipush, f_sipush, f_ldc, f_ldc_w, f_ldc2_w, f_ldI, f_ldL, f_ldA, f_iload, f_iload_n, f_lload, f_lload_n, f_aload, f_aload_n, f_istore, f_istore_n, f_lstore, f_lstore_n, f_astore, f_astore_n, f_iinc, f_icI, f_iadd, f_isub, f_imul, f_idiv, f_irem, f_iand, f_ior, f_ixor, f_ishl, f_ishr, f_iushr, f_i2l, f_i2b, f_i2s, f_ladd, f_lmul, f_lcmp, f_dupI, f_dupR, f_dup2, f_pop, f_goto, f_if, f_icmp, f_tab, f_ts0, f_ts1, f_getI, f_getZ, f_getR, f_putI, f_putR, f_gets, f_iald, f_bald, f_aald, f_iast, f_bast, f_aast, f_alen, f_new, f_newa, f_anew, f_virt, f_stat0, f_stat1, f_spec0, f_spec1, f_spec9, f_copy, f_max, f_min, f_cV1, f_cV0, f_cS1, f_cS0, f_iret, f_lret, f_vret, f_kG, pf0, cIg, inR, lget, lset, lset2, clr, entL, cnd, psh, catS, tsw, List.take_succ_cons, List.take_zero, List.drop_succ_cons, List.drop_zero, List.reverse_cons, List.reverse_nil, List.nil_append, List.cons_append, List.length_cons, List.length_nil, List.replicate_succ, List.replicate_zero, Nat.reduceAdd, Nat.reduceSub, Nat.reduceLeDiff, Nat.reduceLT, Nat.reduceEqDiff, Nat.reduceMul, Nat.zero_add, Nat.add_zero, Nat.le_refl, Nat.zero_le, Int.reduceEq, Int.reduceToNat, Int.toNat_natCast, Int.reduceNeg, Int.reduceAdd, Int.reduceSub, Int.reduceMul, Int.reduceLT, Int.reduceLE, Int.reduceDiv, Int.reduceMod, Bool.false_eq_true, ↓reduceIte, true_and, and_true, implies_true, forall_const, true_or, or_true, or_false, false_or, not_true_eq_false, not_false_eq_true, false_implies, Prod.mk.injEq, Fin.val_zero, Fin.val_one, Fin.isValue, Fin.reduceFinMk, Fin.val_two, mR_uI, mK_uI, mN_uI, mI_uR, mK_uR, mN_uR, mR_uC, mK_uC, mN_uC, Option.some.injEq, Sum.inl.injEq, Sum.inr.injEq, decide_true, decide_false, Bool.or_false, Bool.false_or, Bool.or_true, Bool.true_or, Nat.reduceBEq, beq_self_eq_true, show tb 145 = tb_145 from rfl, tb_145, tb_145_0, tb_145_1, tb_145_2, pfb, pfb_b, pfb_c, pfb_v, pfa_b, pfa_c, pfa_v]
      have hbx : RBx M4 ((A ++ [(t, 0, 0)]).map (setG ((A ++ [(t, 0, 0)]).map (fun b : Mb => hd b.1)))) := by
        refine ⟨⟨?_, by rw [List.length_map]; omega, fun j b hj => ?_⟩, y1, fun j b hj => ?_⟩
        · rw [y2.2.1 10 (fun h => h), d3, List.length_map, hlen]; omega
        · rw [List.getElem?_map] at hj
          obtain ⟨a, ha, rfl⟩ := Option.map_eq_some_iff.mp hj
          have hj2 := (List.getElem?_eq_some_iff.mp ha).1
          exact (hbt.2.2 j a ha).fr y2 (by omega) (fun h => h)
        · rw [List.getElem?_map] at hj
          obtain ⟨a, ha, rfl⟩ := Option.map_eq_some_iff.mp hj
          have hj2 := (List.getElem?_eq_some_iff.mp ha).1
          rw [y2.ne (by omega) (by omega) j]
          by_cases hjl : j < A.length
          · rw [List.getElem?_append_left hjl] at ha
            rw [d4 j (by omega), x2.ne (by omega) (fun h => h) j]
            exact w2 j a ha
          · have hj3 : j = A.length := by omega
            subst hj3
            rw [List.getElem?_append_right (Nat.le_refl _), Nat.sub_self, List.getElem?_cons_zero, Option.some.injEq] at ha
            subst ha
            exact d5
      have hokn : okB ((A ++ [(t, 0, 0)]).map (setG ((A ++ [(t, 0, 0)]).map (fun b : Mb => hd b.1)))) := fun b hb9 => by
        obtain ⟨a, ha, rfl⟩ := List.mem_map.mp hb9
        refine setG_ok ?_
        rcases List.mem_append.mp ha with h | h
        · exact okA a h
        · rw [List.mem_singleton.mp h]; exact ⟨okt.1, okt.2, by simp, by simp⟩
      exact n_loop X M hs _ [] pl1 M4 none hokn hbx ((w3.fr hF13 (by omega) (fun a ha => by omega)).fr y2 (fun h => h) (fun _ _ h => h)) (by rw [y2.2.1 13 (fun h => h), d6, x2.2.1 13 (fun h => h), h13, hw]) ((hF1.tr (hF13.w (fun a h => by unfold EP; omega) (fun a h => Or.inl h) (fun a h => Or.inl h))).tr (y2.w (fun _ h => h.elim) (fun _ h => h.elim) (fun a h => Or.inr h)))
