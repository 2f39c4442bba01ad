/-! the reference: places -/
/-- the place p holds the list L -/
def TP (M : Mem) (p : Nat) (L : Po) : Prop := mI M 523 p = L.length ∧ L.length ≤ 30 ∧ ∀ j t, L[j]? = some t → mI M 522 (30 * p + j) = 32 * t.2 + t.1
/-- M' is M but for places, fields and further cells of the reference -/
def Fr (M M' : Mem) (P F C : Nat → Prop) : Prop := Same M M' (fun a => a = 521 ∨ a = 522 ∨ a = 523 ∨ (C a ∧ 523 < a ∧ a < 536)) ∧ (∀ k, ¬ F k → mI M' 521 k = mI M 521 k) ∧ ∀ p, p < 132 → ¬ P p → mI M' 523 p = mI M 523 p ∧ ∀ j, j < 30 → mI M' 522 (30 * p + j) = mI M 522 (30 * p + j)
abbrev NN : Nat → Prop := fun _ => False
theorem Fr.rf (M : Mem) (P F C : Nat → Prop) : Fr M M P F C := ⟨Same.rf _ _, fun _ _ => rfl, fun _ _ _ => ⟨rfl, fun _ _ => rfl⟩⟩
theorem Fr.tr {M M1 M2 : Mem} {P F C : Nat → Prop} (h : Fr M M1 P F C) (h2 : Fr M1 M2 P F C) : Fr M M2 P F C := ⟨h.1.tr h2.1, fun k hk => (h2.2.1 k hk).trans (h.2.1 k hk), fun p hp hn => ⟨((h2.2.2 p hp hn).1).trans (h.2.2 p hp hn).1, fun j hj => ((h2.2.2 p hp hn).2 j hj).trans ((h.2.2 p hp hn).2 j hj)⟩⟩
theorem Fr.w {M M1 : Mem} {P F C P' F' C' : Nat → Prop} (h : Fr M M1 P F C) (hP : ∀ a, P a → P' a) (hF : ∀ a, F a → F' a) (hC : ∀ a, C a → C' a) : Fr M M1 P' F' C' := ⟨h.1.w (fun a h9 => by
    rcases h9 with h9 | h9 | h9 | h9
    · exact Or.inl h9
    · exact Or.inr (Or.inl h9)
    · exact Or.inr (Or.inr (Or.inl h9))
    · exact Or.inr (Or.inr (Or.inr ⟨hC a h9.1, h9.2⟩))), fun k hk => h.2.1 k (fun h9 => hk (hF k h9)), fun p hp hn => h.2.2 p hp (fun h9 => hn (hP p h9))⟩
theorem Fr.shp {M M' : Mem} {P F C : Nat → Prop} (h : Fr M M' P F C) (hs : Shp M) : Shp M' := h.1.shp hs (fun a ha => by have := big_gt; omega)
theorem Fr.ne {M M' : Mem} {P F C : Nat → Prop} (h : Fr M M' P F C) {a : Nat} (h1 : 523 < a) (h2 : ¬ C a) (k : Nat) : mI M' a k = mI M a k := h.1.2.2.2 a k (fun h9 => by
    rcases h9 with h9 | h9 | h9 | h9
    · omega
    · omega
    · omega
    · exact h2 h9.1)
theorem TP.fr {M M' : Mem} {p : Nat} {L : Po} {P F C : Nat → Prop} (h : TP M p L) (hF : Fr M M' P F C) (hp : p < 132) (hn : ¬ P p) : TP M' p L := by
  obtain ⟨h1, h2, h3⟩ := h
  obtain ⟨f1, f2⟩ := hF.2.2 p hp hn
  refine ⟨f1.trans h1, h2, fun j t ht => ?_⟩
  have hj : j < L.length := (List.getElem?_eq_some_iff.mp ht).1
  exact (f2 j (by omega)).trans (h3 j t ht)
/-- one entry of a place changes -/
theorem Fr.ut {M M1 : Mem} {P F C : Nat → Prop} (h : Fr M M1 P F C) {p j : Nat} {v : Int} (hp : P p) (hj : j < 30) : Fr M (uI M1 522 (30 * p + j) v) P F C := ⟨h.1.uI (Or.inr (Or.inl rfl)) _ _, fun k hk => (mI_uI_ne (by omega)).trans (h.2.1 k hk), fun q hq hn => ⟨(mI_uI_ne (by omega)).trans (h.2.2 q hq hn).1, fun i hi => by
    have hne : q ≠ p := fun e => hn (e ▸ hp)
    rw [mI_uI_nk (by omega)]
    exact (h.2.2 q hq hn).2 i hi⟩⟩
theorem Fr.us {M M1 : Mem} {P F C : Nat → Prop} (h : Fr M M1 P F C) {p : Nat} {v : Int} (hp : P p) : Fr M (uI M1 523 p v) P F C := ⟨h.1.uI (Or.inr (Or.inr (Or.inl rfl))) _ _, fun k hk => (mI_uI_ne (by omega)).trans (h.2.1 k hk), fun q hq hn => ⟨(mI_uI_nk (show q ≠ p from fun e => hn (e ▸ hp))).trans (h.2.2 q hq hn).1, fun i hi => (mI_uI_ne (by omega)).trans ((h.2.2 q hq hn).2 i hi)⟩⟩
theorem Fr.uf {M M1 : Mem} {P F C : Nat → Prop} (h : Fr M M1 P F C) {k : Nat} {v : Int} (hk : F k) : Fr M (uI M1 521 k v) P F C := ⟨h.1.uI (Or.inl rfl) _ _, fun i hi => (mI_uI_nk (show i ≠ k from fun e => hi (e ▸ hk))).trans (h.2.1 i hi), fun q hq hn => ⟨(mI_uI_ne (by omega)).trans (h.2.2 q hq hn).1, fun i hi => (mI_uI_ne (by omega)).trans ((h.2.2 q hq hn).2 i hi)⟩⟩
theorem Fr.uc {M M1 : Mem} {P F C : Nat → Prop} (h : Fr M M1 P F C) {a k : Nat} {v : Int} (ha : C a) (h1 : 523 < a ∧ a < 536) : Fr M (uI M1 a k v) P F C := ⟨h.1.uI (Or.inr (Or.inr (Or.inr ⟨ha, h1⟩))) _ _, fun i hi => (mI_uI_ne (by omega)).trans (h.2.1 i hi), fun q hq hn => ⟨(mI_uI_ne (by omega)).trans (h.2.2 q hq hn).1, fun i hi => (mI_uI_ne (by omega)).trans ((h.2.2 q hq hn).2 i hi)⟩⟩
theorem tm_at (M : Mem) (p j : Nat) : tmI M p j = mI M 522 (30 * p + j) := by
  unfold tmI
  rw [show ((30 : Int) * p + j).toNat = 30 * p + j by omega]
/-- what the calls of product and number say of a term -/
theorem tm_ok {M : Mem} {p j : Nat} {L : Po} {t : Int × Int} (hL : TP M p L) (ok : okP L) (ht : L[j]? = some t) : (0 ≤ tmI M p j ∧ tmI M p j ≤ 2147483647) ∧ tmI M p j / 32 = t.2 ∧ tmI M p j % 32 = t.1 := by
  have h := hL.2.2 j t ht
  have o := ok t (List.mem_of_getElem? ht)
  have o1 := o.1
  have o2 := o.2
  unfold isPr at o2
  rw [tm_at, h]
  omega
set_option maxRecDepth 100000 in
set_option maxHeartbeats 4000000 in
theorem e_copies (X : CX) (M : Mem) (p q : Nat) (L : Po) (hs : Shp M) (hL : TP M p L) (hp : p < 132) (hq : q < 132) : Ev X y_m_copies (0, 0) [aR (some 521), aI p, aI q] M (fun r M' => r = none ∧ TP M' q L ∧ Fr M M' (fun a => a = q) NN NN) := by
  have loop : ∀ (d j : Nat) (M1 : Mem), j + d = L.length → Fr M M1 (fun a => a = q) NN NN → TP M1 p L → (∀ i t, i < j → L[i]? = some t → mI M1 522 (30 * q + i) = 32 * t.2 + t.1) → G X y_m_copies (mZ M, mS M, 0, 0) 2 [some (aR (some 521)), some (aI p), some (aI q), some (aI j)] [] M1 (fun r M' => r = none ∧ TP M' q L ∧ Fr M M' (fun a => a = q) NN NN) := by
    intro d
    induction d with
    | zero =>
      intro j M1 hj hF hT hv
      have hs1 := hF.shp hs
      have l1 := hT.1
      refine G_w (pfb_ok X) LK_134 (fun i => i == 2) 40 _ _ _ _ ?_
      simp only [f_0, f_s, f_iconst, f_bipush, f_sipush, f_ldc, f_ldc_w, f_ldc2_w, f_ldI, f_ldL, f_ldA, f_iload, f_iload_n, f_lload, f_lload_n, f_aload, f_aload_n, f_istore, f_istore_n, f_lstore, f_lstore_n, f_astore, f_astore_n, f_iinc, f_icI, f_iadd, f_isub, f_imul, f_idiv, f_irem, f_iand, f_ior, f_ixor, f_ishl, f_ishr, f_iushr, f_i2l, f_i2b, f_i2s, f_ladd, f_lmul, f_lcmp, f_dupI, f_dupR, f_dup2, f_pop, f_goto, f_if, f_icmp, f_tab, f_ts0, f_ts1, f_getI, f_getZ, f_getR, f_putI, f_putR, f_gets, f_iald, f_bald, f_aald, f_iast, f_bast, f_aast, f_alen, f_new, f_newa, f_anew, f_virt, f_stat0, f_stat1, f_spec0, f_spec1, f_spec9, f_copy, f_max, f_min, f_cV1, f_cV0, f_cS1, f_cS0, f_iret, f_lret, f_vret, f_kG, pf0, cIg, inR, lget, lset, lset2, clr, entL, cnd, psh, catS, tsw, List.take_succ_cons, List.take_zero, List.drop_succ_cons, List.drop_zero, List.reverse_cons, List.reverse_nil, List.nil_append, List.cons_append, List.length_cons, List.length_nil, List.replicate_succ, List.replicate_zero, Nat.reduceAdd, Nat.reduceSub, Nat.reduceLeDiff, Nat.reduceLT, Nat.reduceEqDiff, Nat.reduceMul, Nat.zero_add, Nat.add_zero, Nat.le_refl, Nat.zero_le, Int.reduceEq, Int.reduceToNat, Int.toNat_natCast, Int.reduceNeg, Int.reduceAdd, Int.reduceSub, Int.reduceMul, Int.reduceLT, Int.reduceLE, Int.reduceDiv, Int.reduceMod, Bool.false_eq_true, ↓reduceIte, true_and, and_true, implies_true, forall_const, true_or, or_true, or_false, false_or, not_true_eq_false, not_false_eq_true, false_implies, Prod.mk.injEq, Fin.val_zero, Fin.val_one, Fin.isValue, Fin.reduceFinMk, Fin.val_two, mR_uI, mK_uI, mN_uI, mI_uR, mK_uR, mN_uR, mR_uC, mK_uC, mN_uC, Option.some.injEq, Sum.inl.injEq, Sum.inr.injEq, decide_true, decide_false, Bool.or_false, Bool.false_or, Bool.or_true, Bool.true_or, Nat.reduceBEq, beq_self_eq_true, show tb 134 = tb_134 from rfl, tb_134, tb_134_0, tb_134_1, pfb, pfb_b, pfb_c, pfb_v, pfa_b, pfa_c, pfa_v, hs1.mr1, hs1.mr2, hs1.mr3, hs1.mr4, hs1.mr5, hs1.mr14, hs1.mr15, hs1.mr16, hs1.mr18, hs1.mr19, hs1.mr20, hs1.mr21, hs1.mr22, hs1.mr23, hs1.mk521, hs1.mk522, hs1.mn522, hs1.mk523, hs1.mn523, hs1.mk524, hs1.mn524, hs1.mk525, hs1.mn525, hs1.mk526, hs1.mn526, hs1.mk527, hs1.mn527, hs1.mk528, hs1.mn528, hs1.mk529, hs1.mn529, hs1.mk530, hs1.mn530, hs1.mk531, hs1.mn531, hs1.mk532, hs1.mn532, hs1.mk533, hs1.mn533, hs1.mk534, hs1.mn534, hs1.mk535, hs1.mn535, l1]
      have hfin : TP (uI M1 523 q L.length) q L ∧ Fr M (uI M1 523 q L.length) (fun a => a = q) NN NN := by
        refine ⟨⟨mI_uI_eq, hL.2.1, fun i t ht => ?_⟩, hF.us rfl⟩
        have hi := (List.getElem?_eq_some_iff.mp ht).1
        rw [mI_uI_ne (by omega)]
        exact hv i t (by omega) ht
      (repeat' (first | with_reducible apply And.intro | with_reducible intro _)) <;> (try omega)
      · exact hfin.1
      · exact hfin.2
    | succ d ih =>
      intro j M1 hj hF hT hv
      have hs1 := hF.shp hs
      have l1 := hT.1
      have l2 := hT.2.1
      obtain ⟨u, hu⟩ : ∃ u, L[j]? = some u := ⟨_, List.getElem?_eq_getElem (by omega)⟩
      have e1 : ((30 : Int) * (p : Int) + (j : Int)).toNat = 30 * p + j := by omega
      have e2 : ((30 : Int) * (q : Int) + (j : Int)).toNat = 30 * q + j := by omega
      refine G_w (pfb_ok X) LK_134 (fun i => i == 2) 40 _ _ _ _ ?_
      simp only [f_0, f_s, f_iconst, f_bipush, f_sipush, f_ldc, f_ldc_w, f_ldc2_w, f_ldI, f_ldL, f_ldA, f_iload, f_iload_n, f_lload, f_lload_n, f_aload, f_aload_n, f_istore, f_istore_n, f_lstore, f_lstore_n, f_astore, f_astore_n, f_iinc, f_icI, f_iadd, f_isub, f_imul, f_idiv, f_irem, f_iand, f_ior, f_ixor, f_ishl, f_ishr, f_iushr, f_i2l, f_i2b, f_i2s, f_ladd, f_lmul, f_lcmp, f_dupI, f_dupR, f_dup2, f_pop, f_goto, f_if, f_icmp, f_tab, f_ts0, f_ts1, f_getI, f_getZ, f_getR, f_putI, f_putR, f_gets, f_iald, f_bald, f_aald, f_iast, f_bast, f_aast, f_alen, f_new, f_newa, f_anew, f_virt, f_stat0, f_stat1, f_spec0, f_spec1, f_spec9, f_copy, f_max, f_min, f_cV1, f_cV0, f_cS1, f_cS0, f_iret, f_lret, f_vret, f_kG, pf0, cIg, inR, lget, lset, lset2, clr, entL, cnd, psh, catS, tsw, List.take_succ_cons, List.take_zero, List.drop_succ_cons, List.drop_zero, List.reverse_cons, List.reverse_nil, List.nil_append, List.cons_append, List.length_cons, List.length_nil, List.replicate_succ, List.replicate_zero, Nat.reduceAdd, Nat.reduceSub, Nat.reduceLeDiff, Nat.reduceLT, Nat.reduceEqDiff, Nat.reduceMul, Nat.zero_add, Nat.add_zero, Nat.le_refl, Nat.zero_le, Int.reduceEq, Int.reduceToNat, Int.toNat_natCast, Int.reduceNeg, Int.reduceAdd, Int.reduceSub, Int.reduceMul, Int.reduceLT, Int.reduceLE, Int.reduceDiv, Int.reduceMod, Bool.false_eq_true, ↓reduceIte, true_and, and_true, implies_true, forall_const, true_or, or_true, or_false, false_or, not_true_eq_false, not_false_eq_true, false_implies, Prod.mk.injEq, Fin.val_zero, Fin.val_one, Fin.isValue, Fin.reduceFinMk, Fin.val_two, mR_uI, mK_uI, mN_uI, mI_uR, mK_uR, mN_uR, mR_uC, mK_uC, mN_uC, Option.some.injEq, Sum.inl.injEq, Sum.inr.injEq, decide_true, decide_false, Bool.or_false, Bool.false_or, Bool.or_true, Bool.true_or, Nat.reduceBEq, beq_self_eq_true, show tb 134 = tb_134 from rfl, tb_134, tb_134_0, tb_134_1, pfb, pfb_b, pfb_c, pfb_v, pfa_b, pfa_c, pfa_v, hs1.mr1, hs1.mr2, hs1.mr3, hs1.mr4, hs1.mr5, hs1.mr14, hs1.mr15, hs1.mr16, hs1.mr18, hs1.mr19, hs1.mr20, hs1.mr21, hs1.mr22, hs1.mr23, hs1.mk521, hs1.mk522, hs1.mn522, hs1.mk523, hs1.mn523, hs1.mk524, hs1.mn524, hs1.mk525, hs1.mn525, hs1.mk526, hs1.mn526, hs1.mk527, hs1.mn527, hs1.mk528, hs1.mn528, hs1.mk529, hs1.mn529, hs1.mk530, hs1.mn530, hs1.mk531, hs1.mn531, hs1.mk532, hs1.mn532, hs1.mk533, hs1.mn533, hs1.mk534, hs1.mn534, hs1.mk535, hs1.mn535, l1, e1, e2]
      refine ⟨by omega, fun h => by omega, fun _ => ⟨by omega, by omega, by omega, by omega, by omega, by omega, by omega, ih (j + 1) _ (by omega) (hF.ut (j := j) rfl (by omega)) ?_ (fun i t hi ht => ?_)⟩⟩
      · refine ⟨(mI_uI_ne (by omega)).trans l1, l2, fun i t ht => ?_⟩
        have hi := (List.getElem?_eq_some_iff.mp ht).1
        rw [mI_uI]
        by_cases h9 : 30 * p + i = 30 * q + j
        · rw [if_pos ⟨rfl, h9⟩]
          have hij : p = q ∧ i = j := by omega
          rw [hij.2] at ht
          exact hT.2.2 j t ht
        · rw [if_neg (fun h8 => h9 h8.2)]
          exact hT.2.2 i t ht
      · rw [mI_uI]
        by_cases h9 : i = j
        · subst h9
          rw [if_pos ⟨rfl, rfl⟩]
          exact hT.2.2 i t ht
        · rw [if_neg (fun h8 => h9 (by omega))]
          exact hv i t (by omega) ht
  refine Ev_of mcd_134 mok_134 (by decide) rfl (Nat.le_of_ble_eq_true rfl) ?_
  rw [show yl 134 = 4 from rfl]
  refine G_w (pfb_ok X) LK_134 (fun i => i == 2) 40 _ _ _ _ ?_
  simp only [f_0, f_s, f_iconst, f_bipush, f_sipush, f_ldc, f_ldc_w, f_ldc2_w, f_ldI, f_ldL, f_ldA, f_iload, f_iload_n, f_lload, f_lload_n, f_aload, f_aload_n, f_istore, f_istore_n, f_lstore, f_lstore_n, f_astore, f_astore_n, f_iinc, f_icI, f_iadd, f_isub, f_imul, f_idiv, f_irem, f_iand, f_ior, f_ixor, f_ishl, f_ishr, f_iushr, f_i2l, f_i2b, f_i2s, f_ladd, f_lmul, f_lcmp, f_dupI, f_dupR, f_dup2, f_pop, f_goto, f_if, f_icmp, f_tab, f_ts0, f_ts1, f_getI, f_getZ, f_getR, f_putI, f_putR, f_gets, f_iald, f_bald, f_aald, f_iast, f_bast, f_aast, f_alen, f_new, f_newa, f_anew, f_virt, f_stat0, f_stat1, f_spec0, f_spec1, f_spec9, f_copy, f_max, f_min, f_cV1, f_cV0, f_cS1, f_cS0, f_iret, f_lret, f_vret, f_kG, pf0, cIg, inR, lget, lset, lset2, clr, entL, cnd, psh, catS, tsw, List.take_succ_cons, List.take_zero, List.drop_succ_cons, List.drop_zero, List.reverse_cons, List.reverse_nil, List.nil_append, List.cons_append, List.length_cons, List.length_nil, List.replicate_succ, List.replicate_zero, Nat.reduceAdd, Nat.reduceSub, Nat.reduceLeDiff, Nat.reduceLT, Nat.reduceEqDiff, Nat.reduceMul, Nat.zero_add, Nat.add_zero, Nat.le_refl, Nat.zero_le, Int.reduceEq, Int.reduceToNat, Int.toNat_natCast, Int.reduceNeg, Int.reduceAdd, Int.reduceSub, Int.reduceMul, Int.reduceLT, Int.reduceLE, Int.reduceDiv, Int.reduceMod, Bool.false_eq_true, ↓reduceIte, true_and, and_true, implies_true, forall_const, true_or, or_true, or_false, false_or, not_true_eq_false, not_false_eq_true, false_implies, Prod.mk.injEq, Fin.val_zero, Fin.val_one, Fin.isValue, Fin.reduceFinMk, Fin.val_two, mR_uI, mK_uI, mN_uI, mI_uR, mK_uR, mN_uR, mR_uC, mK_uC, mN_uC, Option.some.injEq, Sum.inl.injEq, Sum.inr.injEq, decide_true, decide_false, Bool.or_false, Bool.false_or, Bool.or_true, Bool.true_or, Nat.reduceBEq, beq_self_eq_true, show tb 134 = tb_134 from rfl, tb_134, tb_134_0, tb_134_1, pfb, pfb_b, pfb_c, pfb_v, pfa_b, pfa_c, pfa_v]
  exact loop L.length 0 M (by omega) (Fr.rf _ _ _ _) hL (fun i t hi => by omega)
set_option maxRecDepth 100000 in
set_option maxHeartbeats 4000000 in
theorem e_inverse (X : CX) (M : Mem) (v : Int) (hv : 1 ≤ v ∧ v ≤ 30) : Ev X y_m_inverse (0, 0) [aI v] M (fun r M' => r = some (aI (inv31 v)) ∧ M' = M) := by
  obtain ⟨n, rfl⟩ := Int.eq_ofNat_of_zero_le (show 0 ≤ v by omega)
  obtain ⟨⟨i1, i2, i3⟩, i4⟩ := inv31_b n (by omega) (by omega)
  have loop : ∀ (d k : Nat), k + d = 31 → 1 ≤ k → G X y_m_inverse (mZ M, mS M, 0, 0) 4 [some (aI n), some (aI (if inv31 n < k then inv31 n else 0)), some (aI k)] [] M (fun r M' => r = some (aI (inv31 n)) ∧ M' = M) := by
    intro d
    induction d with
    | zero =>
      intro k hk h1
      have hk31 : k = 31 := by omega
      subst hk31
      rw [if_pos (by omega)]
      refine G_w (pfb_ok X) LK_136 (fun i => i == 4) 20 _ _ _ _ ?_
      simp only [f_0, f_s, f_iconst, f_bipush, f_sipush, f_ldc, f_ldc_w, f_ldc2_w, f_ldI, f_ldL, f_ldA, f_iload, f_iload_n, f_lload, f_lload_n, f_aload, f_aload_n, f_istore, f_istore_n, f_lstore, f_lstore_n, f_astore, f_astore_n, f_iinc, f_icI, f_iadd, f_isub, f_imul, f_idiv, f_irem, f_iand, f_ior, f_ixor, f_ishl, f_ishr, f_iushr, f_i2l, f_i2b, f_i2s, f_ladd, f_lmul, f_lcmp, f_dupI, f_dupR, f_dup2, f_pop, f_goto, f_if, f_icmp, f_tab, f_ts0, f_ts1, f_getI, f_getZ, f_getR, f_putI, f_putR, f_gets, f_iald, f_bald, f_aald, f_iast, f_bast, f_aast, f_alen, f_new, f_newa, f_anew, f_virt, f_stat0, f_stat1, f_spec0, f_spec1, f_spec9, f_copy, f_max, f_min, f_cV1, f_cV0, f_cS1, f_cS0, f_iret, f_lret, f_vret, f_kG, pf0, cIg, inR, lget, lset, lset2, clr, entL, cnd, psh, catS, tsw, List.take_succ_cons, List.take_zero, List.drop_succ_cons, List.drop_zero, List.reverse_cons, List.reverse_nil, List.nil_append, List.cons_append, List.length_cons, List.length_nil, List.replicate_succ, List.replicate_zero, Nat.reduceAdd, Nat.reduceSub, Nat.reduceLeDiff, Nat.reduceLT, Nat.reduceEqDiff, Nat.reduceMul, Nat.zero_add, Nat.add_zero, Nat.le_refl, Nat.zero_le, Int.reduceEq, Int.reduceToNat, Int.toNat_natCast, Int.reduceNeg, Int.reduceAdd, Int.reduceSub, Int.reduceMul, Int.reduceLT, Int.reduceLE, Int.reduceDiv, Int.reduceMod, Bool.false_eq_true, ↓reduceIte, true_and, and_true, implies_true, forall_const, true_or, or_true, or_false, false_or, not_true_eq_false, not_false_eq_true, false_implies, Prod.mk.injEq, Fin.val_zero, Fin.val_one, Fin.isValue, Fin.reduceFinMk, Fin.val_two, mR_uI, mK_uI, mN_uI, mI_uR, mK_uR, mN_uR, mR_uC, mK_uC, mN_uC, Option.some.injEq, Sum.inl.injEq, Sum.inr.injEq, decide_true, decide_false, Bool.or_false, Bool.false_or, Bool.or_true, Bool.true_or, Nat.reduceBEq, beq_self_eq_true, show tb 136 = tb_136 from rfl, tb_136, tb_136_0, pfb, pfb_b, pfb_c, pfb_v, pfa_b, pfa_c, pfa_v]
      (repeat' (first | with_reducible apply And.intro | with_reducible intro _)) <;> (try omega)
    | succ d ih =>
      intro k hk h1
      have hmul : 0 ≤ (n : Int) * (k : Int) ∧ (n : Int) * (k : Int) ≤ 900 := ⟨Int.mul_nonneg (by omega) (by omega), Int.mul_le_mul (a := (n : Int)) (b := (k : Int)) (c := 30) (d := 30) (by omega) (by omega) (by omega) (by omega)⟩
      have hc : (n : Int) * (k : Int) % 31 = 1 ↔ (k : Int) = inv31 n := by rw [Int.mul_comm]; exact i4 k (by omega)
      have ih := ih (k + 1) (by omega) (by omega)
      by_cases he : (k : Int) = inv31 n
      · have hm := hc.mpr he
        rw [if_pos (by omega), ← he] at ih
        rw [if_neg (by omega), ← he]
        refine G_w (pfb_ok X) LK_136 (fun i => i == 4) 20 _ _ _ _ ?_
        simp only [f_0, f_s, f_iconst, f_bipush, f_sipush, f_ldc, f_ldc_w, f_ldc2_w, f_ldI, f_ldL, f_ldA, f_iload, f_iload_n, f_lload, f_lload_n, f_aload, f_aload_n, f_istore, f_istore_n, f_lstore, f_lstore_n, f_astore, f_astore_n, f_iinc, f_icI, f_iadd, f_isub, f_imul, f_idiv, f_irem, f_iand, f_ior, f_ixor, f_ishl, f_ishr, f_iushr, f_i2l, f_i2b, f_i2s, f_ladd, f_lmul, f_lcmp, f_dupI, f_dupR, f_dup2, f_pop, f_goto, f_if, f_icmp, f_tab, f_ts0, f_ts1, f_getI, f_getZ, f_getR, f_putI, f_putR, f_gets, f_iald, f_bald, f_aald, f_iast, f_bast, f_aast, f_alen, f_new, f_newa, f_anew, f_virt, f_stat0, f_stat1, f_spec0, f_spec1, f_spec9, f_copy, f_max, f_min, f_cV1, f_cV0, f_cS1, f_cS0, f_iret, f_lret, f_vret, f_kG, pf0, cIg, inR, lget, lset, lset2, clr, entL, cnd, psh, catS, tsw, List.take_succ_cons, List.take_zero, List.drop_succ_cons, List.drop_zero, List.reverse_cons, List.reverse_nil, List.nil_append, List.cons_append, List.length_cons, List.length_nil, List.replicate_succ, List.replicate_zero, Nat.reduceAdd, Nat.reduceSub, Nat.reduceLeDiff, Nat.reduceLT, Nat.reduceEqDiff, Nat.reduceMul, Nat.zero_add, Nat.add_zero, Nat.le_refl, Nat.zero_le, Int.reduceEq, Int.reduceToNat, Int.toNat_natCast, Int.reduceNeg, Int.reduceAdd, Int.reduceSub, Int.reduceMul, Int.reduceLT, Int.reduceLE, Int.reduceDiv, Int.reduceMod, Bool.false_eq_true, ↓reduceIte, true_and, and_true, implies_true, forall_const, true_or, or_true, or_false, false_or, not_true_eq_false, not_false_eq_true, false_implies, Prod.mk.injEq, Fin.val_zero, Fin.val_one, Fin.isValue, Fin.reduceFinMk, Fin.val_two, mR_uI, mK_uI, mN_uI, mI_uR, mK_uR, mN_uR, mR_uC, mK_uC, mN_uC, Option.some.injEq, Sum.inl.injEq, Sum.inr.injEq, decide_true, decide_false, Bool.or_false, Bool.false_or, Bool.or_true, Bool.true_or, Nat.reduceBEq, beq_self_eq_true, show tb 136 = tb_136 from rfl, tb_136, tb_136_0, pfb, pfb_b, pfb_c, pfb_v, pfa_b, pfa_c, pfa_v, hm]
        exact ⟨fun h => by omega, fun _ => ⟨by omega, by omega, by omega, ih⟩⟩
      · have hm : ¬ (n : Int) * (k : Int) % 31 = 1 := fun h => he (hc.mp h)
        have e : (if inv31 n < ((k + 1 : Nat) : Int) then inv31 n else 0) = (if inv31 n < (k : Int) then inv31 n else 0) := by
          by_cases h9 : inv31 n < (k : Int)
          · rw [if_pos h9, if_pos (by omega)]
          · rw [if_neg h9, if_neg (by omega)]
        rw [e] at ih
        refine G_w (pfb_ok X) LK_136 (fun i => i == 4) 20 _ _ _ _ ?_
        simp only [f_0, f_s, f_iconst, f_bipush, f_sipush, f_ldc, f_ldc_w, f_ldc2_w, f_ldI, f_ldL, f_ldA, f_iload, f_iload_n, f_lload, f_lload_n, f_aload, f_aload_n, f_istore, f_istore_n, f_lstore, f_lstore_n, f_astore, f_astore_n, f_iinc, f_icI, f_iadd, f_isub, f_imul, f_idiv, f_irem, f_iand, f_ior, f_ixor, f_ishl, f_ishr, f_iushr, f_i2l, f_i2b, f_i2s, f_ladd, f_lmul, f_lcmp, f_dupI, f_dupR, f_dup2, f_pop, f_goto, f_if, f_icmp, f_tab, f_ts0, f_ts1, f_getI, f_getZ, f_getR, f_putI, f_putR, f_gets, f_iald, f_bald, f_aald, f_iast, f_bast, f_aast, f_alen, f_new, f_newa, f_anew, f_virt, f_stat0, f_stat1, f_spec0, f_spec1, f_spec9, f_copy, f_max, f_min, f_cV1, f_cV0, f_cS1, f_cS0, f_iret, f_lret, f_vret, f_kG, pf0, cIg, inR, lget, lset, lset2, clr, entL, cnd, psh, catS, tsw, List.take_succ_cons, List.take_zero, List.drop_succ_cons, List.drop_zero, List.reverse_cons, List.reverse_nil, List.nil_append, List.cons_append, List.length_cons, List.length_nil, List.replicate_succ, List.replicate_zero, Nat.reduceAdd, Nat.reduceSub, Nat.reduceLeDiff, Nat.reduceLT, Nat.reduceEqDiff, Nat.reduceMul, Nat.zero_add, Nat.add_zero, Nat.le_refl, Nat.zero_le, Int.reduceEq, Int.reduceToNat, Int.toNat_natCast, Int.reduceNeg, Int.reduceAdd, Int.reduceSub, Int.reduceMul, Int.reduceLT, Int.reduceLE, Int.reduceDiv, Int.reduceMod, Bool.false_eq_true, ↓reduceIte, true_and, and_true, implies_true, forall_const, true_or, or_true, or_false, false_or, not_true_eq_false, not_false_eq_true, false_implies, Prod.mk.injEq, Fin.val_zero, Fin.val_one, Fin.isValue, Fin.reduceFinMk, Fin.val_two, mR_uI, mK_uI, mN_uI, mI_uR, mK_uR, mN_uR, mR_uC, mK_uC, mN_uC, Option.some.injEq, Sum.inl.injEq, Sum.inr.injEq, decide_true, decide_false, Bool.or_false, Bool.false_or, Bool.or_true, Bool.true_or, Nat.reduceBEq, beq_self_eq_true, show tb 136 = tb_136 from rfl, tb_136, tb_136_0, pfb, pfb_b, pfb_c, pfb_v, pfa_b, pfa_c, pfa_v, hm]
        exact ⟨fun h => by omega, fun _ => ⟨by omega, by omega, by omega, ih⟩⟩
  have h0 := loop 30 1 rfl (by omega)
  rw [if_neg (by omega)] at h0
  refine Ev_of mcd_136 mok_136 (by decide) rfl (Nat.le_of_ble_eq_true rfl) ?_
  rw [show yl 136 = 3 from rfl]
  refine G_w (pfb_ok X) LK_136 (fun i => i == 4) 20 _ _ _ _ ?_
  simp only [f_0, f_s, f_iconst, f_bipush, f_sipush, f_ldc, f_ldc_w, f_ldc2_w, f_ldI, f_ldL, f_ldA, f_iload, f_iload_n, f_lload, f_lload_n, f_aload, f_aload_n, f_istore, f_istore_n, f_lstore, f_lstore_n, f_astore, f_astore_n, f_iinc, f_icI, f_iadd, f_isub, f_imul, f_idiv, f_irem, f_iand, f_ior, f_ixor, f_ishl, f_ishr, f_iushr, f_i2l, f_i2b, f_i2s, f_ladd, f_lmul, f_lcmp, f_dupI, f_dupR, f_dup2, f_pop, f_goto, f_if, f_icmp, f_tab, f_ts0, f_ts1, f_getI, f_getZ, f_getR, f_putI, f_putR, f_gets, f_iald, f_bald, f_aald, f_iast, f_bast, f_aast, f_alen, f_new, f_newa, f_anew, f_virt, f_stat0, f_stat1, f_spec0, f_spec1, f_spec9, f_copy, f_max, f_min, f_cV1, f_cV0, f_cS1, f_cS0, f_iret, f_lret, f_vret, f_kG, pf0, cIg, inR, lget, lset, lset2, clr, entL, cnd, psh, catS, tsw, List.take_succ_cons, List.take_zero, List.drop_succ_cons, List.drop_zero, List.reverse_cons, List.reverse_nil, List.nil_append, List.cons_append, List.length_cons, List.length_nil, List.replicate_succ, List.replicate_zero, Nat.reduceAdd, Nat.reduceSub, Nat.reduceLeDiff, Nat.reduceLT, Nat.reduceEqDiff, Nat.reduceMul, Nat.zero_add, Nat.add_zero, Nat.le_refl, Nat.zero_le, Int.reduceEq, Int.reduceToNat, Int.toNat_natCast, Int.reduceNeg, Int.reduceAdd, Int.reduceSub, Int.reduceMul, Int.reduceLT, Int.reduceLE, Int.reduceDiv, Int.reduceMod, Bool.false_eq_true, ↓reduceIte, true_and, and_true, implies_true, forall_const, true_or, or_true, or_false, false_or, not_true_eq_false, not_false_eq_true, false_implies, Prod.mk.injEq, Fin.val_zero, Fin.val_one, Fin.isValue, Fin.reduceFinMk, Fin.val_two, mR_uI, mK_uI, mN_uI, mI_uR, mK_uR, mN_uR, mR_uC, mK_uC, mN_uC, Option.some.injEq, Sum.inl.injEq, Sum.inr.injEq, decide_true, decide_false, Bool.or_false, Bool.false_or, Bool.or_true, Bool.true_or, Nat.reduceBEq, beq_self_eq_true, show tb 136 = tb_136 from rfl, tb_136, tb_136_0, pfb, pfb_b, pfb_c, pfb_v, pfa_b, pfa_c, pfa_v]
  exact h0
