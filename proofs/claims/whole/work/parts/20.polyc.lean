/-! polynomials that change -/
abbrev T3 (p : Nat) : Nat → Prop := fun a => a = p ∨ a = p + 1 ∨ a = p + 2
theorem mI_uC_ne {M : Mem} {a sp b dp n x j : Nat} (h : x ≠ b) : mI (uC M a sp b dp n) x j = mI M x j := by rw [mI_uC, if_neg (fun h9 => h h9.1)]
theorem mI_uI_ne {M : Mem} {a k x j : Nat} {v : Int} (h : x ≠ a) : mI (uI M a k v) x j = mI M x j := by rw [mI_uI, if_neg (fun h9 => h h9.1)]
theorem mI_uI_nk {M : Mem} {a k x j : Nat} {v : Int} (h : j ≠ k) : mI (uI M a k v) x j = mI M x j := by rw [mI_uI, if_neg (fun h9 => h h9.2)]
theorem mI_uI_eq {M : Mem} {a k : Nat} {v : Int} : mI (uI M a k v) a k = v := by rw [mI_uI, if_pos ⟨rfl, rfl⟩]
theorem PA.apart {M : Mem} {p q : Nat} (hp : PA M p) (hq : PA M q) (h : q ≠ p) : q ≠ p + 1 ∧ q ≠ p + 2 ∧ p ≠ q + 1 ∧ p ≠ q + 2 := by
  obtain ⟨p1, p2, p3, -⟩ := hp
  obtain ⟨q1, q2, q3, -⟩ := hq
  refine ⟨fun e => ?_, fun e => ?_, fun e => ?_, fun e => ?_⟩
  · rw [e, p2] at q1; cases q1
  · rw [e, p3] at q1; cases q1
  · rw [e, q2] at p1; cases p1
  · rw [e, q3] at p1; cases p1
set_option maxRecDepth 100000 in
set_option maxHeartbeats 4000000 in
theorem e_become (X : CX) (M : Mem) (p q : Nat) (L : Po) (hp : PA M p) (hq : PA M q) (hne : q ≠ p) (hL : PL M q L) : Ev X y_Polynomial_become (0, 0) [aR (some p), aR (some q)] M (fun r M' => r = none ∧ PL M' p L ∧ mI M' p 3 = 0 ∧ mI M' p 4 = 0 ∧ Same M M' (T3 p)) := by
  obtain ⟨n1, n2, n3, n4⟩ := hp.apart hq hne
  obtain ⟨p1, p2, p3, p4, p5, p6, p7⟩ := hp
  obtain ⟨q1, q2, q3, q4, q5, q6, q7⟩ := hq
  obtain ⟨l1, l2, l3⟩ := hL
  refine Ev_of mcd_45 mok_45 (by decide) rfl (Nat.le_of_ble_eq_true rfl) ?_
  rw [show yl 45 = 2 from rfl]
  refine G_w (pfb_ok X) LK_45 (fun i => false) 60 _ _ _ _ ?_
  simp only [f_0, f_s, f_iconst, f_bipush, f_sipush, f_ldc, f_ldc_w, f_ldc2_w, f_ldI, f_ldL, f_ldA, f_iload, f_iload_n, f_lload, f_lload_n, f_aload, f_aload_n, f_istore, f_istore_n, f_lstore, f_lstore_n, f_astore, f_astore_n, f_iinc, f_icI, f_iadd, f_isub, f_imul, f_idiv, f_irem, f_iand, f_ior, f_ixor, f_ishl, f_ishr, f_iushr, f_i2l, f_i2b, f_i2s, f_ladd, f_lmul, f_lcmp, f_dupI, f_dupR, f_dup2, f_pop, f_goto, f_if, f_icmp, f_tab, f_ts0, f_ts1, f_getI, f_getZ, f_getR, f_putI, f_putR, f_gets, f_iald, f_bald, f_aald, f_iast, f_bast, f_aast, f_alen, f_new, f_newa, f_anew, f_virt, f_stat0, f_stat1, f_spec0, f_spec1, f_spec9, f_copy, f_max, f_min, f_cV1, f_cV0, f_cS1, f_cS0, f_iret, f_lret, f_vret, f_kG, pf0, cIg, inR, lget, lset, lset2, clr, entL, cnd, psh, catS, tsw, List.take_succ_cons, List.take_zero, List.drop_succ_cons, List.drop_zero, List.reverse_cons, List.reverse_nil, List.nil_append, List.cons_append, List.length_cons, List.length_nil, List.replicate_succ, List.replicate_zero, Nat.reduceAdd, Nat.reduceSub, Nat.reduceLeDiff, Nat.reduceLT, Nat.reduceEqDiff, Nat.reduceMul, Nat.zero_add, Nat.add_zero, Nat.le_refl, Nat.zero_le, Int.reduceEq, Int.reduceToNat, Int.toNat_natCast, Int.reduceNeg, Int.reduceAdd, Int.reduceSub, Int.reduceMul, Int.reduceLT, Int.reduceLE, Int.reduceDiv, Int.reduceMod, Bool.false_eq_true, ↓reduceIte, true_and, and_true, implies_true, forall_const, true_or, or_true, or_false, false_or, not_true_eq_false, not_false_eq_true, false_implies, Prod.mk.injEq, Fin.val_zero, Fin.val_one, Fin.isValue, Fin.reduceFinMk, Fin.val_two, mR_uI, mK_uI, mN_uI, mI_uR, mK_uR, mN_uR, mR_uC, mK_uC, mN_uC, Option.some.injEq, Sum.inl.injEq, Sum.inr.injEq, decide_true, decide_false, Bool.or_false, Bool.false_or, Bool.or_true, Bool.true_or, Nat.reduceBEq, beq_self_eq_true, show tb 45 = tb_45 from rfl, tb_45, tb_45_0, pfb, pfb_b, pfb_c, pfb_v, pfa_b, pfa_c, pfa_v, p1, p2, p3, p4, p5, p6, p7, q1, q2, q3, q4, q5, q6, q7, l1, mI_uC_ne n1, mI_uC_ne n2, mI_uI_ne hne]
  refine ⟨by omega, by omega, ⟨?_, l2, fun j t ht => ?_⟩, ?_, ?_, ?_⟩
  · rw [mI_uI_nk (by omega), mI_uI_nk (by omega), mI_uI_eq]
  · obtain ⟨h1, h2⟩ := l3 j t ht
    have hj : j < L.length := (List.getElem?_eq_some_iff.mp ht).1
    rw [mI_uI_ne (by omega), mI_uI_ne (by omega), mI_uI_ne (by omega), mI_uI_ne (by omega), mI_uI_ne (by omega), mI_uI_ne (by omega)]
    rw [mI_uC_ne (x := p + 1) (b := p + 2) (by omega), mI_uC, if_pos ⟨rfl, by omega, by omega⟩, mI_uC, if_pos ⟨rfl, by omega, by omega⟩, mI_uC_ne (x := q + 2) (b := p + 1) (by omega)]
    simp only [Nat.zero_add, Nat.sub_zero]
    exact ⟨h1, h2⟩
  · rw [mI_uI_nk (by omega), mI_uI_eq]
  · rw [mI_uI_eq]
  · exact ((((Same.rf M (T3 p)).uC (Or.inr (Or.inl rfl)) _ _ _ _).uC (Or.inr (Or.inr rfl)) _ _ _ _).uI (Or.inl rfl) _ _ |>.uI (Or.inl rfl) _ _).uI (Or.inl rfl) _ _
/-- the inverse modulo 31 of 1 to 30 -/
def inv31 (a : Int) : Int := (([0, 1, 16, 21, 8, 25, 26, 9, 4, 7, 28, 17, 13, 12, 20, 29, 2, 11, 19, 18, 14, 3, 24, 27, 22, 5, 6, 23, 10, 15, 30] : List Int)).getD a.toNat 0
theorem inv31_b : ∀ n : Nat, n < 31 → 1 ≤ n → (1 ≤ inv31 n ∧ inv31 n ≤ 30 ∧ inv31 n * n % 31 = 1) ∧ ∀ k : Nat, k < 31 → ((k : Int) * n % 31 = 1 ↔ (k : Int) = inv31 n) := by decide +kernel
def monT (a : Int) (t : Int × Int) : Int × Int := (t.1 * inv31 a % 31, t.2)
/-- the monic one -/
def mon : Po → Po
  | [] => []
  | t :: L => (t :: L).map (monT t.1)
set_option maxRecDepth 100000 in
set_option maxHeartbeats 4000000 in
theorem e_makeMonic (X : CX) (M : Mem) (p : Nat) (L : Po) (hp : PA M p) (hL : PL M p L) (ok : okP L) : Ev X y_Polynomial_makeMonic (0, 0) [aR (some p)] M (fun r M' => r = none ∧ PL M' p (mon L) ∧ Same M M' (fun a => a = p + 1)) := by
  obtain ⟨p1, p2, p3, p4, p5, p6, p7⟩ := hp
  obtain ⟨l1, l2, l3⟩ := hL
  cases L with
  | nil =>
    refine Ev_of mcd_43 mok_43 (by decide) rfl (Nat.le_of_ble_eq_true rfl) ?_
    rw [show yl 43 = 3 from rfl]
    refine G_w (pfb_ok X) LK_43 (fun i => false) 6 _ _ _ _ ?_
    simp only [f_0, f_s, f_iconst, f_bipush, f_sipush, f_ldc, f_ldc_w, f_ldc2_w, f_ldI, f_ldL, f_ldA, f_iload, f_iload_n, f_lload, f_lload_n, f_aload, f_aload_n, f_istore, f_istore_n, f_lstore, f_lstore_n, f_astore, f_astore_n, f_iinc, f_icI, f_iadd, f_isub, f_imul, f_idiv, f_irem, f_iand, f_ior, f_ixor, f_ishl, f_ishr, f_iushr, f_i2l, f_i2b, f_i2s, f_ladd, f_lmul, f_lcmp, f_dupI, f_dupR, f_dup2, f_pop, f_goto, f_if, f_icmp, f_tab, f_ts0, f_ts1, f_getI, f_getZ, f_getR, f_putI, f_putR, f_gets, f_iald, f_bald, f_aald, f_iast, f_bast, f_aast, f_alen, f_new, f_newa, f_anew, f_virt, f_stat0, f_stat1, f_spec0, f_spec1, f_spec9, f_copy, f_max, f_min, f_cV1, f_cV0, f_cS1, f_cS0, f_iret, f_lret, f_vret, f_kG, pf0, cIg, inR, lget, lset, lset2, clr, entL, cnd, psh, catS, tsw, List.take_succ_cons, List.take_zero, List.drop_succ_cons, List.drop_zero, List.reverse_cons, List.reverse_nil, List.nil_append, List.cons_append, List.length_cons, List.length_nil, List.replicate_succ, List.replicate_zero, Nat.reduceAdd, Nat.reduceSub, Nat.reduceLeDiff, Nat.reduceLT, Nat.reduceEqDiff, Nat.reduceMul, Nat.zero_add, Nat.add_zero, Nat.le_refl, Nat.zero_le, Int.reduceEq, Int.reduceToNat, Int.toNat_natCast, Int.reduceNeg, Int.reduceAdd, Int.reduceSub, Int.reduceMul, Int.reduceLT, Int.reduceLE, Int.reduceDiv, Int.reduceMod, Bool.false_eq_true, ↓reduceIte, true_and, and_true, implies_true, forall_const, true_or, or_true, or_false, false_or, not_true_eq_false, not_false_eq_true, false_implies, Prod.mk.injEq, Fin.val_zero, Fin.val_one, Fin.isValue, Fin.reduceFinMk, Fin.val_two, mR_uI, mK_uI, mN_uI, mI_uR, mK_uR, mN_uR, mR_uC, mK_uC, mN_uC, Option.some.injEq, Sum.inl.injEq, Sum.inr.injEq, decide_true, decide_false, Bool.or_false, Bool.false_or, Bool.or_true, Bool.true_or, Nat.reduceBEq, beq_self_eq_true, show tb 43 = tb_43 from rfl, tb_43, tb_43_0, tb_43_1, pfb, pfb_b, pfb_c, pfb_v, pfa_b, pfa_c, pfa_v, p1, l1]
    exact ⟨fun h => absurd rfl h, fun _ => ⟨⟨l1, l2, l3⟩, Same.rf _ _⟩⟩
  | cons t0 L0 =>
    have hL0 : (t0 :: L0).length = L0.length + 1 := rfl
    obtain ⟨h4, h5⟩ := l3 0 t0 rfl
    have hok := ok t0 List.mem_cons_self
    obtain ⟨⟨o1, o2⟩, o3⟩ := hok
    obtain ⟨n0, hn0⟩ := Int.eq_ofNat_of_zero_le (show 0 ≤ t0.1 by omega)
    obtain ⟨⟨i1, i2, i3⟩, i4⟩ := inv31_b n0 (by omega) (by omega)
    rw [← hn0] at i1 i2 i3
    rw [← hn0] at i4
    -- the second loop
    have loop2 : ∀ (d j : Nat) (M1 : Mem), j + d = (t0 :: L0).length → Same M M1 (fun a => a = p + 1) → (∀ k t, (t0 :: L0)[k]? = some t → mI M1 (p + 1) k = if k < j then (monT t0.1 t).1 else t.1) → G X y_Polynomial_makeMonic (mZ M, mS M, 0, 0) 23 [some (aR (some p)), some (aI (inv31 t0.1)), some (aI j)] [] M1 (fun r M' => r = none ∧ PL M' p (mon (t0 :: L0)) ∧ Same M M' (fun a => a = p + 1)) := by
      intro d
      induction d with
      | zero =>
        intro j M1 hj hS hv
        have e1 := hS.1 p; have e2 := hS.2.2.2 p 2 (by omega)
        refine G_w (pfb_ok X) LK_43 (fun i => i == 23) 10 _ _ _ _ ?_
        simp only [f_0, f_s, f_iconst, f_bipush, f_sipush, f_ldc, f_ldc_w, f_ldc2_w, f_ldI, f_ldL, f_ldA, f_iload, f_iload_n, f_lload, f_lload_n, f_aload, f_aload_n, f_istore, f_istore_n, f_lstore, f_lstore_n, f_astore, f_astore_n, f_iinc, f_icI, f_iadd, f_isub, f_imul, f_idiv, f_irem, f_iand, f_ior, f_ixor, f_ishl, f_ishr, f_iushr, f_i2l, f_i2b, f_i2s, f_ladd, f_lmul, f_lcmp, f_dupI, f_dupR, f_dup2, f_pop, f_goto, f_if, f_icmp, f_tab, f_ts0, f_ts1, f_getI, f_getZ, f_getR, f_putI, f_putR, f_gets, f_iald, f_bald, f_aald, f_iast, f_bast, f_aast, f_alen, f_new, f_newa, f_anew, f_virt, f_stat0, f_stat1, f_spec0, f_spec1, f_spec9, f_copy, f_max, f_min, f_cV1, f_cV0, f_cS1, f_cS0, f_iret, f_lret, f_vret, f_kG, pf0, cIg, inR, lget, lset, lset2, clr, entL, cnd, psh, catS, tsw, List.take_succ_cons, List.take_zero, List.drop_succ_cons, List.drop_zero, List.reverse_cons, List.reverse_nil, List.nil_append, List.cons_append, List.length_cons, List.length_nil, List.replicate_succ, List.replicate_zero, Nat.reduceAdd, Nat.reduceSub, Nat.reduceLeDiff, Nat.reduceLT, Nat.reduceEqDiff, Nat.reduceMul, Nat.zero_add, Nat.add_zero, Nat.le_refl, Nat.zero_le, Int.reduceEq, Int.reduceToNat, Int.toNat_natCast, Int.reduceNeg, Int.reduceAdd, Int.reduceSub, Int.reduceMul, Int.reduceLT, Int.reduceLE, Int.reduceDiv, Int.reduceMod, Bool.false_eq_true, ↓reduceIte, true_and, and_true, implies_true, forall_const, true_or, or_true, or_false, false_or, not_true_eq_false, not_false_eq_true, false_implies, Prod.mk.injEq, Fin.val_zero, Fin.val_one, Fin.isValue, Fin.reduceFinMk, Fin.val_two, mR_uI, mK_uI, mN_uI, mI_uR, mK_uR, mN_uR, mR_uC, mK_uC, mN_uC, Option.some.injEq, Sum.inl.injEq, Sum.inr.injEq, decide_true, decide_false, Bool.or_false, Bool.false_or, Bool.or_true, Bool.true_or, Nat.reduceBEq, beq_self_eq_true, show tb 43 = tb_43 from rfl, tb_43, tb_43_0, tb_43_1, pfb, pfb_b, pfb_c, pfb_v, pfa_b, pfa_c, pfa_v, e1, e2, p1, l1]
        refine ⟨fun _ => ⟨⟨?_, ?_, fun k t ht => ?_⟩, hS⟩, fun h => by omega⟩
        · rw [e2, l1]; simp [mon]
        · simpa [mon] using l2
        · have hk : k < (t0 :: L0).length := by
            have := (List.getElem?_eq_some_iff.mp ht).1
            simpa [mon] using this
          obtain ⟨u, hu⟩ : ∃ u, (t0 :: L0)[k]? = some u := ⟨_, List.getElem?_eq_getElem hk⟩
          have hmu : (mon (t0 :: L0))[k]? = some (monT t0.1 u) := by rw [show mon (t0 :: L0) = (t0 :: L0).map (monT t0.1) from rfl, List.getElem?_map, hu]; rfl
          rw [hmu] at ht
          cases ht
          rw [hv k u hu, if_pos (by omega), hS.2.2.2 (p + 2) k (by omega)]
          exact ⟨rfl, (l3 k u hu).2⟩
      | succ d ih =>
        intro j M1 hj hS hv
        have e1 := hS.1 p; have e2 := hS.2.2.2 p 2 (by omega); have e3 := hS.2.2.1 p 0; have e4 := hS.1 (p + 1); have e5 := hS.2.1 (p + 1)
        obtain ⟨u, hu⟩ : ∃ u, (t0 :: L0)[j]? = some u := ⟨_, List.getElem?_eq_getElem (by omega)⟩
        have hvj := hv j u hu
        rw [if_neg (by omega)] at hvj
        have hou := (ok u (List.mem_of_getElem? hu)).1
        have hmul : 0 ≤ u.1 * inv31 t0.1 ∧ u.1 * inv31 t0.1 ≤ 900 := ⟨Int.mul_nonneg (by omega) (by omega), Int.mul_le_mul (a := u.1) (b := inv31 t0.1) (c := 30) (d := 30) (by omega) (by omega) (by omega) (by omega)⟩
        refine G_w (pfb_ok X) LK_43 (fun i => i == 23) 30 _ _ _ _ ?_
        simp only [f_0, f_s, f_iconst, f_bipush, f_sipush, f_ldc, f_ldc_w, f_ldc2_w, f_ldI, f_ldL, f_ldA, f_iload, f_iload_n, f_lload, f_lload_n, f_aload, f_aload_n, f_istore, f_istore_n, f_lstore, f_lstore_n, f_astore, f_astore_n, f_iinc, f_icI, f_iadd, f_isub, f_imul, f_idiv, f_irem, f_iand, f_ior, f_ixor, f_ishl, f_ishr, f_iushr, f_i2l, f_i2b, f_i2s, f_ladd, f_lmul, f_lcmp, f_dupI, f_dupR, f_dup2, f_pop, f_goto, f_if, f_icmp, f_tab, f_ts0, f_ts1, f_getI, f_getZ, f_getR, f_putI, f_putR, f_gets, f_iald, f_bald, f_aald, f_iast, f_bast, f_aast, f_alen, f_new, f_newa, f_anew, f_virt, f_stat0, f_stat1, f_spec0, f_spec1, f_spec9, f_copy, f_max, f_min, f_cV1, f_cV0, f_cS1, f_cS0, f_iret, f_lret, f_vret, f_kG, pf0, cIg, inR, lget, lset, lset2, clr, entL, cnd, psh, catS, tsw, List.take_succ_cons, List.take_zero, List.drop_succ_cons, List.drop_zero, List.reverse_cons, List.reverse_nil, List.nil_append, List.cons_append, List.length_cons, List.length_nil, List.replicate_succ, List.replicate_zero, Nat.reduceAdd, Nat.reduceSub, Nat.reduceLeDiff, Nat.reduceLT, Nat.reduceEqDiff, Nat.reduceMul, Nat.zero_add, Nat.add_zero, Nat.le_refl, Nat.zero_le, Int.reduceEq, Int.reduceToNat, Int.toNat_natCast, Int.reduceNeg, Int.reduceAdd, Int.reduceSub, Int.reduceMul, Int.reduceLT, Int.reduceLE, Int.reduceDiv, Int.reduceMod, Bool.false_eq_true, ↓reduceIte, true_and, and_true, implies_true, forall_const, true_or, or_true, or_false, false_or, not_true_eq_false, not_false_eq_true, false_implies, Prod.mk.injEq, Fin.val_zero, Fin.val_one, Fin.isValue, Fin.reduceFinMk, Fin.val_two, mR_uI, mK_uI, mN_uI, mI_uR, mK_uR, mN_uR, mR_uC, mK_uC, mN_uC, Option.some.injEq, Sum.inl.injEq, Sum.inr.injEq, decide_true, decide_false, Bool.or_false, Bool.false_or, Bool.or_true, Bool.true_or, Nat.reduceBEq, beq_self_eq_true, show tb 43 = tb_43 from rfl, tb_43, tb_43_0, tb_43_1, pfb, pfb_b, pfb_c, pfb_v, pfa_b, pfa_c, pfa_v, e1, e2, e3, e4, e5, p1, p2, p4, p6, l1, hvj]
        (repeat' (first | with_reducible apply And.intro | with_reducible intro _)) <;> (try omega)
        refine ih (j + 1) _ (by omega) (hS.uI rfl _ _) (fun k t ht => ?_)
        rw [mI_uI]
        by_cases hk : k = j
        · subst hk
          rw [hu] at ht; cases ht
          rw [if_pos ⟨rfl, rfl⟩, if_pos (by omega)]; rfl
        · rw [if_neg (fun h9 => hk h9.2), hv k t ht]
          by_cases h8 : k < j
          · rw [if_pos h8, if_pos (by omega)]
          · rw [if_neg h8, if_neg (by omega)]
    -- the first loop
    have loop1 : ∀ (d : Nat) (k : Int), 1 ≤ k → k + d = inv31 t0.1 → (∀ v2, G X y_Polynomial_makeMonic (mZ M, mS M, 0, 0) 6 [some (aR (some p)), some (aI k), v2] [] M (fun r M' => r = none ∧ PL M' p (mon (t0 :: L0)) ∧ Same M M' (fun a => a = p + 1))) := by
      have hexit : ∀ v2, G X y_Polynomial_makeMonic (mZ M, mS M, 0, 0) 21 [some (aR (some p)), some (aI (inv31 t0.1)), v2] [] M (fun r M' => r = none ∧ PL M' p (mon (t0 :: L0)) ∧ Same M M' (fun a => a = p + 1)) := by
        intro v2
        refine G_w (pfb_ok X) LK_43 (fun i => i == 23) 6 _ _ _ _ ?_
        simp only [f_0, f_s, f_iconst, f_bipush, f_sipush, f_ldc, f_ldc_w, f_ldc2_w, f_ldI, f_ldL, f_ldA, f_iload, f_iload_n, f_lload, f_lload_n, f_aload, f_aload_n, f_istore, f_istore_n, f_lstore, f_lstore_n, f_astore, f_astore_n, f_iinc, f_icI, f_iadd, f_isub, f_imul, f_idiv, f_irem, f_iand, f_ior, f_ixor, f_ishl, f_ishr, f_iushr, f_i2l, f_i2b, f_i2s, f_ladd, f_lmul, f_lcmp, f_dupI, f_dupR, f_dup2, f_pop, f_goto, f_if, f_icmp, f_tab, f_ts0, f_ts1, f_getI, f_getZ, f_getR, f_putI, f_putR, f_gets, f_iald, f_bald, f_aald, f_iast, f_bast, f_aast, f_alen, f_new, f_newa, f_anew, f_virt, f_stat0, f_stat1, f_spec0, f_spec1, f_spec9, f_copy, f_max, f_min, f_cV1, f_cV0, f_cS1, f_cS0, f_iret, f_lret, f_vret, f_kG, pf0, cIg, inR, lget, lset, lset2, clr, entL, cnd, psh, catS, tsw, List.take_succ_cons, List.take_zero, List.drop_succ_cons, List.drop_zero, List.reverse_cons, List.reverse_nil, List.nil_append, List.cons_append, List.length_cons, List.length_nil, List.replicate_succ, List.replicate_zero, Nat.reduceAdd, Nat.reduceSub, Nat.reduceLeDiff, Nat.reduceLT, Nat.reduceEqDiff, Nat.reduceMul, Nat.zero_add, Nat.add_zero, Nat.le_refl, Nat.zero_le, Int.reduceEq, Int.reduceToNat, Int.toNat_natCast, Int.reduceNeg, Int.reduceAdd, Int.reduceSub, Int.reduceMul, Int.reduceLT, Int.reduceLE, Int.reduceDiv, Int.reduceMod, Bool.false_eq_true, ↓reduceIte, true_and, and_true, implies_true, forall_const, true_or, or_true, or_false, false_or, not_true_eq_false, not_false_eq_true, false_implies, Prod.mk.injEq, Fin.val_zero, Fin.val_one, Fin.isValue, Fin.reduceFinMk, Fin.val_two, mR_uI, mK_uI, mN_uI, mI_uR, mK_uR, mN_uR, mR_uC, mK_uC, mN_uC, Option.some.injEq, Sum.inl.injEq, Sum.inr.injEq, decide_true, decide_false, Bool.or_false, Bool.false_or, Bool.or_true, Bool.true_or, Nat.reduceBEq, beq_self_eq_true, show tb 43 = tb_43 from rfl, tb_43, tb_43_0, tb_43_1, pfb, pfb_b, pfb_c, pfb_v, pfa_b, pfa_c, pfa_v]
        exact loop2 _ 0 M (Nat.zero_add _) (Same.rf _ _) (fun k t ht => (l3 k t ht).1)
      intro d
      induction d with
      | zero =>
        intro k h1 h2 v2
        have hk : k = inv31 t0.1 := by omega
        subst hk
        have hmul : 0 ≤ inv31 t0.1 * t0.1 ∧ inv31 t0.1 * t0.1 ≤ 900 := ⟨Int.mul_nonneg (by omega) (by omega), Int.mul_le_mul (a := inv31 t0.1) (b := t0.1) (c := 30) (d := 30) (by omega) (by omega) (by omega) (by omega)⟩
        refine G_w (pfb_ok X) LK_43 (fun i => i == 21 || i == 6) 20 _ _ _ _ ?_
        simp only [f_0, f_s, f_iconst, f_bipush, f_sipush, f_ldc, f_ldc_w, f_ldc2_w, f_ldI, f_ldL, f_ldA, f_iload, f_iload_n, f_lload, f_lload_n, f_aload, f_aload_n, f_istore, f_istore_n, f_lstore, f_lstore_n, f_astore, f_astore_n, f_iinc, f_icI, f_iadd, f_isub, f_imul, f_idiv, f_irem, f_iand, f_ior, f_ixor, f_ishl, f_ishr, f_iushr, f_i2l, f_i2b, f_i2s, f_ladd, f_lmul, f_lcmp, f_dupI, f_dupR, f_dup2, f_pop, f_goto, f_if, f_icmp, f_tab, f_ts0, f_ts1, f_getI, f_getZ, f_getR, f_putI, f_putR, f_gets, f_iald, f_bald, f_aald, f_iast, f_bast, f_aast, f_alen, f_new, f_newa, f_anew, f_virt, f_stat0, f_stat1, f_spec0, f_spec1, f_spec9, f_copy, f_max, f_min, f_cV1, f_cV0, f_cS1, f_cS0, f_iret, f_lret, f_vret, f_kG, pf0, cIg, inR, lget, lset, lset2, clr, entL, cnd, psh, catS, tsw, List.take_succ_cons, List.take_zero, List.drop_succ_cons, List.drop_zero, List.reverse_cons, List.reverse_nil, List.nil_append, List.cons_append, List.length_cons, List.length_nil, List.replicate_succ, List.replicate_zero, Nat.reduceAdd, Nat.reduceSub, Nat.reduceLeDiff, Nat.reduceLT, Nat.reduceEqDiff, Nat.reduceMul, Nat.zero_add, Nat.add_zero, Nat.le_refl, Nat.zero_le, Int.reduceEq, Int.reduceToNat, Int.toNat_natCast, Int.reduceNeg, Int.reduceAdd, Int.reduceSub, Int.reduceMul, Int.reduceLT, Int.reduceLE, Int.reduceDiv, Int.reduceMod, Bool.false_eq_true, ↓reduceIte, true_and, and_true, implies_true, forall_const, true_or, or_true, or_false, false_or, not_true_eq_false, not_false_eq_true, false_implies, Prod.mk.injEq, Fin.val_zero, Fin.val_one, Fin.isValue, Fin.reduceFinMk, Fin.val_two, mR_uI, mK_uI, mN_uI, mI_uR, mK_uR, mN_uR, mR_uC, mK_uC, mN_uC, Option.some.injEq, Sum.inl.injEq, Sum.inr.injEq, decide_true, decide_false, Bool.or_false, Bool.false_or, Bool.or_true, Bool.true_or, Nat.reduceBEq, beq_self_eq_true, show tb 43 = tb_43 from rfl, tb_43, tb_43_0, tb_43_1, pfb, pfb_b, pfb_c, pfb_v, pfa_b, pfa_c, pfa_v, p1, p2, p4, p6, h4, i3]
        (repeat' (first | with_reducible apply And.intro | with_reducible intro _)) <;> (try omega)
        · exact hexit v2
        · exact hexit v2
      | succ d ih =>
        intro k h1 h2 v2
        obtain ⟨k0, hk0⟩ := Int.eq_ofNat_of_zero_le (show 0 ≤ k by omega)
        have hne : ¬ k * t0.1 % 31 = 1 := fun h9 => by
          have := (i4 k0 (by omega)).mp (by rw [← hk0]; exact h9)
          omega
        have hmul : 0 ≤ k * t0.1 ∧ k * t0.1 ≤ 900 := ⟨Int.mul_nonneg (by omega) (by omega), Int.mul_le_mul (a := k) (b := t0.1) (c := 30) (d := 30) (by omega) (by omega) (by omega) (by omega)⟩
        have ih := ih (k + 1) (by omega) (by omega) v2
        refine G_w (pfb_ok X) LK_43 (fun i => i == 21 || i == 6) 20 _ _ _ _ ?_
        simp only [f_0, f_s, f_iconst, f_bipush, f_sipush, f_ldc, f_ldc_w, f_ldc2_w, f_ldI, f_ldL, f_ldA, f_iload, f_iload_n, f_lload, f_lload_n, f_aload, f_aload_n, f_istore, f_istore_n, f_lstore, f_lstore_n, f_astore, f_astore_n, f_iinc, f_icI, f_iadd, f_isub, f_imul, f_idiv, f_irem, f_iand, f_ior, f_ixor, f_ishl, f_ishr, f_iushr, f_i2l, f_i2b, f_i2s, f_ladd, f_lmul, f_lcmp, f_dupI, f_dupR, f_dup2, f_pop, f_goto, f_if, f_icmp, f_tab, f_ts0, f_ts1, f_getI, f_getZ, f_getR, f_putI, f_putR, f_gets, f_iald, f_bald, f_aald, f_iast, f_bast, f_aast, f_alen, f_new, f_newa, f_anew, f_virt, f_stat0, f_stat1, f_spec0, f_spec1, f_spec9, f_copy, f_max, f_min, f_cV1, f_cV0, f_cS1, f_cS0, f_iret, f_lret, f_vret, f_kG, pf0, cIg, inR, lget, lset, lset2, clr, entL, cnd, psh, catS, tsw, List.take_succ_cons, List.take_zero, List.drop_succ_cons, List.drop_zero, List.reverse_cons, List.reverse_nil, List.nil_append, List.cons_append, List.length_cons, List.length_nil, List.replicate_succ, List.replicate_zero, Nat.reduceAdd, Nat.reduceSub, Nat.reduceLeDiff, Nat.reduceLT, Nat.reduceEqDiff, Nat.reduceMul, Nat.zero_add, Nat.add_zero, Nat.le_refl, Nat.zero_le, Int.reduceEq, Int.reduceToNat, Int.toNat_natCast, Int.reduceNeg, Int.reduceAdd, Int.reduceSub, Int.reduceMul, Int.reduceLT, Int.reduceLE, Int.reduceDiv, Int.reduceMod, Bool.false_eq_true, ↓reduceIte, true_and, and_true, implies_true, forall_const, true_or, or_true, or_false, false_or, not_true_eq_false, not_false_eq_true, false_implies, Prod.mk.injEq, Fin.val_zero, Fin.val_one, Fin.isValue, Fin.reduceFinMk, Fin.val_two, mR_uI, mK_uI, mN_uI, mI_uR, mK_uR, mN_uR, mR_uC, mK_uC, mN_uC, Option.some.injEq, Sum.inl.injEq, Sum.inr.injEq, decide_true, decide_false, Bool.or_false, Bool.false_or, Bool.or_true, Bool.true_or, Nat.reduceBEq, beq_self_eq_true, show tb 43 = tb_43 from rfl, tb_43, tb_43_0, tb_43_1, pfb, pfb_b, pfb_c, pfb_v, pfa_b, pfa_c, pfa_v, p1, p2, p4, p6, h4, hne]
        (repeat' (first | with_reducible apply And.intro | with_reducible intro _)) <;> (try omega)
        all_goals exact ih
    refine Ev_of mcd_43 mok_43 (by decide) rfl (Nat.le_of_ble_eq_true rfl) ?_
    rw [show yl 43 = 3 from rfl]
    refine G_w (pfb_ok X) LK_43 (fun i => i == 6) 6 _ _ _ _ ?_
    simp only [f_0, f_s, f_iconst, f_bipush, f_sipush, f_ldc, f_ldc_w, f_ldc2_w, f_ldI, f_ldL, f_ldA, f_iload, f_iload_n, f_lload, f_lload_n, f_aload, f_aload_n, f_istore, f_istore_n, f_lstore, f_lstore_n, f_astore, f_astore_n, f_iinc, f_icI, f_iadd, f_isub, f_imul, f_idiv, f_irem, f_iand, f_ior, f_ixor, f_ishl, f_ishr, f_iushr, f_i2l, f_i2b, f_i2s, f_ladd, f_lmul, f_lcmp, f_dupI, f_dupR, f_dup2, f_pop, f_goto, f_if, f_icmp, f_tab, f_ts0, f_ts1, f_getI, f_getZ, f_getR, f_putI, f_putR, f_gets, f_iald, f_bald, f_aald, f_iast, f_bast, f_aast, f_alen, f_new, f_newa, f_anew, f_virt, f_stat0, f_stat1, f_spec0, f_spec1, f_spec9, f_copy, f_max, f_min, f_cV1, f_cV0, f_cS1, f_cS0, f_iret, f_lret, f_vret, f_kG, pf0, cIg, inR, lget, lset, lset2, clr, entL, cnd, psh, catS, tsw, List.take_succ_cons, List.take_zero, List.drop_succ_cons, List.drop_zero, List.reverse_cons, List.reverse_nil, List.nil_append, List.cons_append, List.length_cons, List.length_nil, List.replicate_succ, List.replicate_zero, Nat.reduceAdd, Nat.reduceSub, Nat.reduceLeDiff, Nat.reduceLT, Nat.reduceEqDiff, Nat.reduceMul, Nat.zero_add, Nat.add_zero, Nat.le_refl, Nat.zero_le, Int.reduceEq, Int.reduceToNat, Int.toNat_natCast, Int.reduceNeg, Int.reduceAdd, Int.reduceSub, Int.reduceMul, Int.reduceLT, Int.reduceLE, Int.reduceDiv, Int.reduceMod, Bool.false_eq_true, ↓reduceIte, true_and, and_true, implies_true, forall_const, true_or, or_true, or_false, false_or, not_true_eq_false, not_false_eq_true, false_implies, Prod.mk.injEq, Fin.val_zero, Fin.val_one, Fin.isValue, Fin.reduceFinMk, Fin.val_two, mR_uI, mK_uI, mN_uI, mI_uR, mK_uR, mN_uR, mR_uC, mK_uC, mN_uC, Option.some.injEq, Sum.inl.injEq, Sum.inr.injEq, decide_true, decide_false, Bool.or_false, Bool.false_or, Bool.or_true, Bool.true_or, Nat.reduceBEq, beq_self_eq_true, show tb 43 = tb_43 from rfl, tb_43, tb_43_0, tb_43_1, pfb, pfb_b, pfb_c, pfb_v, pfa_b, pfa_c, pfa_v, p1, l1]
    exact ⟨fun _ => loop1 (inv31 t0.1 - 1).toNat 1 (by omega) (by omega) none, fun h => by omega⟩
