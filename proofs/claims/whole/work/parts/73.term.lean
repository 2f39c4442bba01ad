/-! the reference reads a term -/
def tmF (R : List Int) (i : Nat) : Bool × Nat × Int × Int := match R with
  | [] => (false, i, 1, 0)
  | d :: R1 => if 49 ≤ d ∧ d ≤ 57 then ((ltR 31 R1 (i + 1) 0).1, (ltR 31 R1 (i + 1) 0).2.1, d - 48, (ltR 31 R1 (i + 1) 0).2.2) else ((ltR 31 (d :: R1) i 0).1 && decide ((ltR 31 (d :: R1) i 0).2.1 ≠ i), (ltR 31 (d :: R1) i 0).2.1, 1, (ltR 31 (d :: R1) i 0).2.2)
theorem e15_0 : e15 0 := ⟨by unfold isPr; omega, by decide, by decide, by decide⟩
theorem tm_rd (o : Int) (R : List Int) (i : Nat) (st neg l : Int) (L : Po) (hR : R.length ≤ 30) (hst : st = 0 ∨ st = 1) (hneg : neg = 0 ∨ neg = 1) (h0 : st = 0 → R ≠ [] ∧ ∀ c R2, R = c :: R2 → c ≠ 45) : ((tmF R i).1 = false → rdL o R i (st, neg, 1, 0, l) L = (((tmF R i).2.1 : Int), [])) ∧ ((tmF R i).1 = true → ∃ n st' l', (tmF R i).2.1 = i + n ∧ 0 < n ∧ n ≤ R.length ∧ rdL o R i (st, neg, 1, 0, l) L = rdL o (R.drop n) (i + n) (st', neg, (tmF R i).2.2.1, (tmF R i).2.2.2, l') L ∧ (st' = 2 ∨ st' = 3 ∨ st' = 4) ∧ okR (st', neg, (tmF R i).2.2.1, (tmF R i).2.2.2, l') ∧ (st' = 3 → noPow (R.drop n)) ∧ noLet (R.drop n)) := by
  cases R with
  | nil =>
    unfold tmF
    refine ⟨fun _ => ?_, fun h => by simp at h⟩
    rcases hst with rfl | rfl
    · exact absurd rfl (h0 rfl).1
    · rw [rdL]; rfl
  | cons d R1 =>
    unfold tmF
    simp only
    simp only [List.length_cons] at hR
    by_cases hd : 49 ≤ d ∧ d ≤ 57
    · simp only [if_pos hd]
      have hnx : nxR d (st, neg, 1, 0, l) = some (2, neg, d - 48, 0, l) := by
        unfold nxR
        rw [if_neg (by omega), if_pos hd, if_pos hst]
      have hrd : rdL o (d :: R1) i (st, neg, 1, 0, l) L = rdL o R1 (i + 1) (2, neg, d - 48, 0, l) L := by rw [rdL, hnx]; simp only; rw [if_neg (by omega)]
      have ok2 : okR (2, neg, d - 48, 0, l) := ⟨by simp, hneg, by simp only; omega, by unfold isPr; simp, fun h => by simp at h⟩
      obtain ⟨g1, g2⟩ := lt_rd o 31 R1 (i + 1) 2 neg (d - 48) 0 l L (by omega) ok2 e15_0 (fun h => by omega)
      refine ⟨fun h => by rw [hrd]; exact g1 h, fun h => ?_⟩
      obtain ⟨n, st', l', q1, q2, q3, q4, q5, q6, q7, q8⟩ := g2 h
      refine ⟨n + 1, st', l', by rw [q1]; omega, by omega, by simp only [List.length_cons]; omega, by rw [hrd, q3, show i + 1 + n = i + (n + 1) by omega]; rfl, ?_, q6, q7, q8⟩
      by_cases hn : n = 0
      · exact Or.inl (q4 hn)
      · exact Or.inr (q5 (by omega))
    · simp only [if_neg hd]
      have ok0 : okR (st, neg, 1, 0, l) := ⟨by simp only; omega, hneg, by simp, by unfold isPr; simp, fun h => by simp only at h; omega⟩
      obtain ⟨g1, g2⟩ := lt_rd o 31 (d :: R1) i st neg 1 0 l L (by simp only [List.length_cons]; omega) ok0 e15_0 (fun h => by omega)
      cases hlt : (ltR 31 (d :: R1) i 0).1 with
      | false =>
        refine ⟨fun _ => g1 hlt, fun h => by simp at h⟩
      | true =>
        obtain ⟨n, st', l', q1, q2, q3, q4, q5, q6, q7, q8⟩ := g2 hlt
        by_cases hn : n = 0
        · subst hn
          rw [Nat.add_zero] at q1
          refine ⟨fun _ => ?_, fun h => by rw [q1] at h; simp at h⟩
          have hnl := q8 d R1 rfl
          have hnx : nxR d (st, neg, 1, 0, l) = none := by
            unfold nxR
            by_cases hs : d = 43 ∨ d = 45
            · rw [if_pos hs, if_pos]
              rcases hst with rfl | rfl
              · have := (h0 rfl).2 d R1 rfl
                exact Or.inr ⟨rfl, by omega⟩
              · exact Or.inl rfl
            · rw [if_neg hs, if_neg hd, if_neg hnl]
          rw [rdL, hnx, q1]
        · refine ⟨fun h => ?_, fun _ => ⟨n, st', l', q1, by omega, q2, q3, Or.inr (q5 (by omega)), q6, q7, q8⟩⟩
          rw [q1] at h
          simp at h
          omega
/-- behind a term -/
def enF (o : Int) (i : Nat) (s : RS) (L : Po) : List Int → Int × Po
  | [] => (-1, addT o (sgR s) s.2.2.2.1 L)
  | c :: R2 => if c = 43 ∨ c = 45 then rdL o R2 (i + 1) (1, (if c = 45 then 1 else 0), 1, 0, s.2.2.2.2) (addT o (sgR s) s.2.2.2.1 L) else ((i : Int), [])
theorem en_rd (o : Int) (R : List Int) (i : Nat) (s : RS) (L : Po) (hi : 0 < i) (hst : s.1 = 2 ∨ s.1 = 3 ∨ s.1 = 4) (hp : s.1 = 3 → noPow R) (hl : noLet R) : rdL o R i s L = enF o i s L R := by
  cases R with
  | nil => rw [rdL, enF, if_neg (by omega), if_neg (by omega)]
  | cons c R2 =>
    rw [enF]
    by_cases hc : c = 43 ∨ c = 45
    · rw [if_pos hc]
      have hnx : nxR c s = some (1, s.2) := by unfold nxR; rw [if_pos hc, if_neg (by omega)]
      rw [rdL, hnx]
      simp only [if_true]
      rw [if_neg (show ¬ i = 0 by omega)]
      rfl
    · rw [if_neg hc]
      have hnx : nxR c s = none := by
        unfold nxR
        rw [if_neg hc]
        by_cases hf : 49 ≤ c ∧ c ≤ 57
        · rw [if_pos hf, if_neg (by omega), if_neg]
          rintro ⟨h3, h49⟩
          exact hp h3 c R2 rfl (by omega)
        · rw [if_neg hf, if_neg (hl c R2 rfl)]
      rw [rdL, hnx]
/-- how a term is read -/
def TE (M : Mem) (t : Nat) (o sg : Int) (L : Po) (res : Bool × Nat × Int × Int) (r : Option AV) (M' : Mem) : Prop := r = some (aI (if res.1 = true then 1 else 0)) ∧ Fr M M' (fun a => a = t) (fun k => k = 8 ∨ k = 9) NN ∧ mI M' 521 8 = res.2.1 ∧ (res.1 = true → TP M' t (addT o (if sg = 1 then res.2.2.1 else 31 - res.2.2.1) res.2.2.2 L))
set_option maxRecDepth 100000 in
set_option maxHeartbeats 4000000 in
theorem e_readsTerm (X : CX) (M : Mem) (t i : Nat) (o sg : Int) (B : List Int) (L : Po) (hs : Shp M) (hB : TB M t B) (ht : t < 7) (hi : i ≤ B.length) (hat : mI M 521 8 = i) (hL : TP M t L) (okL : okP L) (hlen : L.length ≤ i) (ho : mI M 521 0 = o) (ho2 : 0 ≤ o ∧ o ≤ 2) : Ev X y_m_readsTerm (0, 0) [aR (some 521), aI t, aI sg] M (TE M t o sg L (tmF (B.drop i) i)) := by
  have hB30 := hB.2.2.1
  -- from the place behind the figure on
  have rest : ∀ (is : Int) (i1 : Nat) (num : Int) (M1 : Mem), (is = 0 ∨ is = 1) → (is = 1 → 1 ≤ num ∧ num ≤ 9) → i1 ≤ B.length → L.length ≤ i1 → (is = 1 → L.length < 30) → mI M1 521 8 = i1 → Fr M M1 (fun a => a = t) (fun k => k = 8 ∨ k = 9) NN → TP M1 t L → (is = 0 → (ltR 31 (B.drop i1) i1 0).2.1 ≠ i1 → L.length < 30) → (∀ x : Bool × Nat × Int, x = ltR 31 (B.drop i1) i1 0 → e15 x.2.2 ∨ x.1 = false) → G X y_m_readsTerm (mZ M, mS M, 0, 0) 23 [some (aR (some 521)), some (aI t), some (aI sg), some (aI num), some (aI is), none, none] [] M1 (TE M t o sg L ((ltR 31 (B.drop i1) i1 0).1 && (decide (is = 1) || decide ((ltR 31 (B.drop i1) i1 0).2.1 ≠ i1)), (ltR 31 (B.drop i1) i1 0).2.1, (if is = 1 then num else 1), (ltR 31 (B.drop i1) i1 0).2.2)) := by
    intro is i1 num M1 his hnum hi1 hl1 hl30 h8 hF hT hl31 hx
    have hs1 := hF.shp hs
    refine G_w (pfb_ok X) LK_124 (fun i => false) 20 _ _ _ _ ?_
    simp only [f_0, f_s, f_iconst, f_bipush, f_sipush, f_ldc, f_ldc_w, f_ldc2_w, f_ldI, f_ldL, f_ldA, f_iload, f_iload_n, f_lload, f_lload_n, f_aload, f_aload_n, f_istore, f_istore_n, f_lstore, f_lstore_n, f_astore, f_astore_n, f_iinc, f_icI, f_iadd, f_isub, f_imul, f_idiv, f_irem, f_iand, f_ior, f_ixor, f_ishl, f_ishr, f_iushr, f_i2l, f_i2b, f_i2s, f_ladd, f_lmul, f_lcmp, f_dupI, f_dupR, f_dup2, f_pop, f_goto, f_if, f_icmp, f_tab, f_ts0, f_ts1, f_getI, f_getZ, f_getR, f_putI, f_putR, f_gets, f_iald, f_bald, f_aald, f_iast, f_bast, f_aast, f_alen, f_new, f_newa, f_anew, f_virt, f_stat0, f_stat1, f_spec0, f_spec1, f_spec9, f_copy, f_max, f_min, f_cV1, f_cV0, f_cS1, f_cS0, f_iret, f_lret, f_vret, f_kG, pf0, cIg, inR, lget, lset, lset2, clr, entL, cnd, psh, catS, tsw, List.take_succ_cons, List.take_zero, List.drop_succ_cons, List.drop_zero, List.reverse_cons, List.reverse_nil, List.nil_append, List.cons_append, List.length_cons, List.length_nil, List.replicate_succ, List.replicate_zero, Nat.reduceAdd, Nat.reduceSub, Nat.reduceLeDiff, Nat.reduceLT, Nat.reduceEqDiff, Nat.reduceMul, Nat.zero_add, Nat.add_zero, Nat.le_refl, Nat.zero_le, Int.reduceEq, Int.reduceToNat, Int.toNat_natCast, Int.reduceNeg, Int.reduceAdd, Int.reduceSub, Int.reduceMul, Int.reduceLT, Int.reduceLE, Int.reduceDiv, Int.reduceMod, Bool.false_eq_true, ↓reduceIte, true_and, and_true, implies_true, forall_const, true_or, or_true, or_false, false_or, not_true_eq_false, not_false_eq_true, false_implies, Prod.mk.injEq, Fin.val_zero, Fin.val_one, Fin.isValue, Fin.reduceFinMk, Fin.val_two, mR_uI, mK_uI, mN_uI, mI_uR, mK_uR, mN_uR, mR_uC, mK_uC, mN_uC, Option.some.injEq, Sum.inl.injEq, Sum.inr.injEq, decide_true, decide_false, Bool.or_false, Bool.false_or, Bool.or_true, Bool.true_or, Nat.reduceBEq, beq_self_eq_true, show tb 124 = tb_124 from rfl, tb_124, tb_124_0, tb_124_1, pfb, pfb_b, pfb_c, pfb_v, pfa_b, pfa_c, pfa_v, hs1.mk521, h8]
    refine Ev_mono (e_readsLetters X M1 t i1 B hs1 (hB.fr hF ⟨fun h => h, fun h => h⟩) (by omega) (by omega) h8) (fun r M2 hr _ _ => ?_)
    obtain ⟨rfl, w1, w2, w3⟩ := hr
    have hx9 := hx _ rfl
    generalize ltR 31 (B.drop i1) i1 0 = x at w2 w3 hl31 hx9 ⊢
    obtain ⟨x1, x2, x3⟩ := x
    simp only at w2 w3 hl31 hx9 ⊢
    have hs2 := w1.shp hs1
    have hF2 : Fr M M2 (fun a => a = t) (fun k => k = 8 ∨ k = 9) NN := hF.tr (w1.w (fun _ h => h.elim) (fun _ h => h) (fun _ h => h))
    have hT2 : TP M2 t L := hT.fr w1 (by omega) (fun h => h)
    have o2 : mI M2 521 0 = o := (hF2.2.1 0 (by omega)).trans ho
    cases x1 with
    | false =>
      simp only [Bool.false_eq_true, ↓reduceIte]
      simp only [f_kG, psh, Nat.reduceAdd]
      refine G_w (pfb_ok X) LK_124 (fun i => false) 20 _ _ _ _ ?_
      simp only [f_0, f_s, f_iconst, f_bipush, f_sipush, f_ldc, f_ldc_w, f_ldc2_w, f_ldI, f_ldL, f_ldA, f_iload, f_iload_n, f_lload, f_lload_n, f_aload, f_aload_n, f_istore, f_istore_n, f_lstore, f_lstore_n, f_astore, f_astore_n, f_iinc, f_icI, f_iadd, f_isub, f_imul, f_idiv, f_irem, f_iand, f_ior, f_ixor, f_ishl, f_ishr, f_iushr, f_i2l, f_i2b, f_i2s, f_ladd, f_lmul, f_lcmp, f_dupI, f_dupR, f_dup2, f_pop, f_goto, f_if, f_icmp, f_tab, f_ts0, f_ts1, f_getI, f_getZ, f_getR, f_putI, f_putR, f_gets, f_iald, f_bald, f_aald, f_iast, f_bast, f_aast, f_alen, f_new, f_newa, f_anew, f_virt, f_stat0, f_stat1, f_spec0, f_spec1, f_spec9, f_copy, f_max, f_min, f_cV1, f_cV0, f_cS1, f_cS0, f_iret, f_lret, f_vret, f_kG, pf0, cIg, inR, lget, lset, lset2, clr, entL, cnd, psh, catS, tsw, List.take_succ_cons, List.take_zero, List.drop_succ_cons, List.drop_zero, List.reverse_cons, List.reverse_nil, List.nil_append, List.cons_append, List.length_cons, List.length_nil, List.replicate_succ, List.replicate_zero, Nat.reduceAdd, Nat.reduceSub, Nat.reduceLeDiff, Nat.reduceLT, Nat.reduceEqDiff, Nat.reduceMul, Nat.zero_add, Nat.add_zero, Nat.le_refl, Nat.zero_le, Int.reduceEq, Int.reduceToNat, Int.toNat_natCast, Int.reduceNeg, Int.reduceAdd, Int.reduceSub, Int.reduceMul, Int.reduceLT, Int.reduceLE, Int.reduceDiv, Int.reduceMod, Bool.false_eq_true, ↓reduceIte, true_and, and_true, implies_true, forall_const, true_or, or_true, or_false, false_or, not_true_eq_false, not_false_eq_true, false_implies, Prod.mk.injEq, Fin.val_zero, Fin.val_one, Fin.isValue, Fin.reduceFinMk, Fin.val_two, mR_uI, mK_uI, mN_uI, mI_uR, mK_uR, mN_uR, mR_uC, mK_uC, mN_uC, Option.some.injEq, Sum.inl.injEq, Sum.inr.injEq, decide_true, decide_false, Bool.or_false, Bool.false_or, Bool.or_true, Bool.true_or, Nat.reduceBEq, beq_self_eq_true, show tb 124 = tb_124 from rfl, tb_124, tb_124_0, tb_124_1, pfb, pfb_b, pfb_c, pfb_v, pfa_b, pfa_c, pfa_v]
      exact ⟨rfl, hF2, w2, fun h => by simp at h⟩
    | true =>
      simp only [↓reduceIte]
      have he : isPr x3 := by
        rcases hx9 with h | h
        · exact h.1
        · simp at h
      have go : ∀ v : Int, (1 ≤ v ∧ v ≤ 9) → v = (if is = 1 then num else 1) → (is = 1 ∨ x2 ≠ i1) → L.length < 30 → G X y_m_readsTerm (mZ M, mS M, 0, 0) 44 [some (aR (some 521)), some (aI t), some (aI sg), some (aI num), some (aI is), some (aI i1), some (aI v)] [] M2 (TE M t o sg L (true && (decide (is = 1) || decide (x2 ≠ i1)), x2, (if is = 1 then num else 1), x3)) := by
        intro v hv hve hor hll
        have hb : (true && (decide (is = 1) || decide (x2 ≠ i1))) = true := by
          rcases hor with h | h <;> simp [h]
        rw [hb, ← hve]
        by_cases hsg : sg = 1
        · refine G_w (pfb_ok X) LK_124 (fun i => false) 20 _ _ _ _ ?_
          simp only [f_0, f_s, f_iconst, f_bipush, f_sipush, f_ldc, f_ldc_w, f_ldc2_w, f_ldI, f_ldL, f_ldA, f_iload, f_iload_n, f_lload, f_lload_n, f_aload, f_aload_n, f_istore, f_istore_n, f_lstore, f_lstore_n, f_astore, f_astore_n, f_iinc, f_icI, f_iadd, f_isub, f_imul, f_idiv, f_irem, f_iand, f_ior, f_ixor, f_ishl, f_ishr, f_iushr, f_i2l, f_i2b, f_i2s, f_ladd, f_lmul, f_lcmp, f_dupI, f_dupR, f_dup2, f_pop, f_goto, f_if, f_icmp, f_tab, f_ts0, f_ts1, f_getI, f_getZ, f_getR, f_putI, f_putR, f_gets, f_iald, f_bald, f_aald, f_iast, f_bast, f_aast, f_alen, f_new, f_newa, f_anew, f_virt, f_stat0, f_stat1, f_spec0, f_spec1, f_spec9, f_copy, f_max, f_min, f_cV1, f_cV0, f_cS1, f_cS0, f_iret, f_lret, f_vret, f_kG, pf0, cIg, inR, lget, lset, lset2, clr, entL, cnd, psh, catS, tsw, List.take_succ_cons, List.take_zero, List.drop_succ_cons, List.drop_zero, List.reverse_cons, List.reverse_nil, List.nil_append, List.cons_append, List.length_cons, List.length_nil, List.replicate_succ, List.replicate_zero, Nat.reduceAdd, Nat.reduceSub, Nat.reduceLeDiff, Nat.reduceLT, Nat.reduceEqDiff, Nat.reduceMul, Nat.zero_add, Nat.add_zero, Nat.le_refl, Nat.zero_le, Int.reduceEq, Int.reduceToNat, Int.toNat_natCast, Int.reduceNeg, Int.reduceAdd, Int.reduceSub, Int.reduceMul, Int.reduceLT, Int.reduceLE, Int.reduceDiv, Int.reduceMod, Bool.false_eq_true, ↓reduceIte, true_and, and_true, implies_true, forall_const, true_or, or_true, or_false, false_or, not_true_eq_false, not_false_eq_true, false_implies, Prod.mk.injEq, Fin.val_zero, Fin.val_one, Fin.isValue, Fin.reduceFinMk, Fin.val_two, mR_uI, mK_uI, mN_uI, mI_uR, mK_uR, mN_uR, mR_uC, mK_uC, mN_uC, Option.some.injEq, Sum.inl.injEq, Sum.inr.injEq, decide_true, decide_false, Bool.or_false, Bool.false_or, Bool.or_true, Bool.true_or, Nat.reduceBEq, beq_self_eq_true, show tb 124 = tb_124 from rfl, tb_124, tb_124_0, tb_124_1, pfb, pfb_b, pfb_c, pfb_v, pfa_b, pfa_c, pfa_v, hs2.mk521, w3, hsg]
          refine Ev_mono (e_adds X M2 t v x3 o L hs2 hT2 okL hll (by omega) he (by omega) o2 ho2) (fun r M3 hr _ _ => ?_)
          obtain ⟨rfl, y1, y2⟩ := hr
          simp only [f_kG, psh, Nat.reduceAdd]
          refine G_w (pfb_ok X) LK_124 (fun i => false) 20 _ _ _ _ ?_
          simp only [f_0, f_s, f_iconst, f_bipush, f_sipush, f_ldc, f_ldc_w, f_ldc2_w, f_ldI, f_ldL, f_ldA, f_iload, f_iload_n, f_lload, f_lload_n, f_aload, f_aload_n, f_istore, f_istore_n, f_lstore, f_lstore_n, f_astore, f_astore_n, f_iinc, f_icI, f_iadd, f_isub, f_imul, f_idiv, f_irem, f_iand, f_ior, f_ixor, f_ishl, f_ishr, f_iushr, f_i2l, f_i2b, f_i2s, f_ladd, f_lmul, f_lcmp, f_dupI, f_dupR, f_dup2, f_pop, f_goto, f_if, f_icmp, f_tab, f_ts0, f_ts1, f_getI, f_getZ, f_getR, f_putI, f_putR, f_gets, f_iald, f_bald, f_aald, f_iast, f_bast, f_aast, f_alen, f_new, f_newa, f_anew, f_virt, f_stat0, f_stat1, f_spec0, f_spec1, f_spec9, f_copy, f_max, f_min, f_cV1, f_cV0, f_cS1, f_cS0, f_iret, f_lret, f_vret, f_kG, pf0, cIg, inR, lget, lset, lset2, clr, entL, cnd, psh, catS, tsw, List.take_succ_cons, List.take_zero, List.drop_succ_cons, List.drop_zero, List.reverse_cons, List.reverse_nil, List.nil_append, List.cons_append, List.length_cons, List.length_nil, List.replicate_succ, List.replicate_zero, Nat.reduceAdd, Nat.reduceSub, Nat.reduceLeDiff, Nat.reduceLT, Nat.reduceEqDiff, Nat.reduceMul, Nat.zero_add, Nat.add_zero, Nat.le_refl, Nat.zero_le, Int.reduceEq, Int.reduceToNat, Int.toNat_natCast, Int.reduceNeg, Int.reduceAdd, Int.reduceSub, Int.reduceMul, Int.reduceLT, Int.reduceLE, Int.reduceDiv, Int.reduceMod, Bool.false_eq_true, ↓reduceIte, true_and, and_true, implies_true, forall_const, true_or, or_true, or_false, false_or, not_true_eq_false, not_false_eq_true, false_implies, Prod.mk.injEq, Fin.val_zero, Fin.val_one, Fin.isValue, Fin.reduceFinMk, Fin.val_two, mR_uI, mK_uI, mN_uI, mI_uR, mK_uR, mN_uR, mR_uC, mK_uC, mN_uC, Option.some.injEq, Sum.inl.injEq, Sum.inr.injEq, decide_true, decide_false, Bool.or_false, Bool.false_or, Bool.or_true, Bool.true_or, Nat.reduceBEq, beq_self_eq_true, show tb 124 = tb_124 from rfl, tb_124, tb_124_0, tb_124_1, pfb, pfb_b, pfb_c, pfb_v, pfa_b, pfa_c, pfa_v]
          refine ⟨rfl, hF2.tr (y2.w (fun _ h => h) (fun _ h => h.elim) (fun _ h => h)), (y2.2.1 8 (fun h => h)).trans w2, fun _ => ?_⟩
          rw [if_pos rfl]
          exact y1
        · refine G_w (pfb_ok X) LK_124 (fun i => false) 20 _ _ _ _ ?_
          simp only [f_0, f_s, f_iconst, f_bipush, f_sipush, f_ldc, f_ldc_w, f_ldc2_w, f_ldI, f_ldL, f_ldA, f_iload, f_iload_n, f_lload, f_lload_n, f_aload, f_aload_n, f_istore, f_istore_n, f_lstore, f_lstore_n, f_astore, f_astore_n, f_iinc, f_icI, f_iadd, f_isub, f_imul, f_idiv, f_irem, f_iand, f_ior, f_ixor, f_ishl, f_ishr, f_iushr, f_i2l, f_i2b, f_i2s, f_ladd, f_lmul, f_lcmp, f_dupI, f_dupR, f_dup2, f_pop, f_goto, f_if, f_icmp, f_tab, f_ts0, f_ts1, f_getI, f_getZ, f_getR, f_putI, f_putR, f_gets, f_iald, f_bald, f_aald, f_iast, f_bast, f_aast, f_alen, f_new, f_newa, f_anew, f_virt, f_stat0, f_stat1, f_spec0, f_spec1, f_spec9, f_copy, f_max, f_min, f_cV1, f_cV0, f_cS1, f_cS0, f_iret, f_lret, f_vret, f_kG, pf0, cIg, inR, lget, lset, lset2, clr, entL, cnd, psh, catS, tsw, List.take_succ_cons, List.take_zero, List.drop_succ_cons, List.drop_zero, List.reverse_cons, List.reverse_nil, List.nil_append, List.cons_append, List.length_cons, List.length_nil, List.replicate_succ, List.replicate_zero, Nat.reduceAdd, Nat.reduceSub, Nat.reduceLeDiff, Nat.reduceLT, Nat.reduceEqDiff, Nat.reduceMul, Nat.zero_add, Nat.add_zero, Nat.le_refl, Nat.zero_le, Int.reduceEq, Int.reduceToNat, Int.toNat_natCast, Int.reduceNeg, Int.reduceAdd, Int.reduceSub, Int.reduceMul, Int.reduceLT, Int.reduceLE, Int.reduceDiv, Int.reduceMod, Bool.false_eq_true, ↓reduceIte, true_and, and_true, implies_true, forall_const, true_or, or_true, or_false, false_or, not_true_eq_false, not_false_eq_true, false_implies, Prod.mk.injEq, Fin.val_zero, Fin.val_one, Fin.isValue, Fin.reduceFinMk, Fin.val_two, mR_uI, mK_uI, mN_uI, mI_uR, mK_uR, mN_uR, mR_uC, mK_uC, mN_uC, Option.some.injEq, Sum.inl.injEq, Sum.inr.injEq, decide_true, decide_false, Bool.or_false, Bool.false_or, Bool.or_true, Bool.true_or, Nat.reduceBEq, beq_self_eq_true, show tb 124 = tb_124 from rfl, tb_124, tb_124_0, tb_124_1, pfb, pfb_b, pfb_c, pfb_v, pfa_b, pfa_c, pfa_v, hs2.mk521, w3, hsg]
          refine ⟨by omega, ?_⟩
          refine Ev_mono (e_adds X M2 t (31 - v) x3 o L hs2 hT2 okL hll (by omega) he (by omega) o2 ho2) (fun r M3 hr _ _ => ?_)
          obtain ⟨rfl, y1, y2⟩ := hr
          simp only [f_kG, psh, Nat.reduceAdd]
          refine G_w (pfb_ok X) LK_124 (fun i => false) 20 _ _ _ _ ?_
          simp only [f_0, f_s, f_iconst, f_bipush, f_sipush, f_ldc, f_ldc_w, f_ldc2_w, f_ldI, f_ldL, f_ldA, f_iload, f_iload_n, f_lload, f_lload_n, f_aload, f_aload_n, f_istore, f_istore_n, f_lstore, f_lstore_n, f_astore, f_astore_n, f_iinc, f_icI, f_iadd, f_isub, f_imul, f_idiv, f_irem, f_iand, f_ior, f_ixor, f_ishl, f_ishr, f_iushr, f_i2l, f_i2b, f_i2s, f_ladd, f_lmul, f_lcmp, f_dupI, f_dupR, f_dup2, f_pop, f_goto, f_if, f_icmp, f_tab, f_ts0, f_ts1, f_getI, f_getZ, f_getR, f_putI, f_putR, f_gets, f_iald, f_bald, f_aald, f_iast, f_bast, f_aast, f_alen, f_new, f_newa, f_anew, f_virt, f_stat0, f_stat1, f_spec0, f_spec1, f_spec9, f_copy, f_max, f_min, f_cV1, f_cV0, f_cS1, f_cS0, f_iret, f_lret, f_vret, f_kG, pf0, cIg, inR, lget, lset, lset2, clr, entL, cnd, psh, catS, tsw, List.take_succ_cons, List.take_zero, List.drop_succ_cons, List.drop_zero, List.reverse_cons, List.reverse_nil, List.nil_append, List.cons_append, List.length_cons, List.length_nil, List.replicate_succ, List.replicate_zero, Nat.reduceAdd, Nat.reduceSub, Nat.reduceLeDiff, Nat.reduceLT, Nat.reduceEqDiff, Nat.reduceMul, Nat.zero_add, Nat.add_zero, Nat.le_refl, Nat.zero_le, Int.reduceEq, Int.reduceToNat, Int.toNat_natCast, Int.reduceNeg, Int.reduceAdd, Int.reduceSub, Int.reduceMul, Int.reduceLT, Int.reduceLE, Int.reduceDiv, Int.reduceMod, Bool.false_eq_true, ↓reduceIte, true_and, and_true, implies_true, forall_const, true_or, or_true, or_false, false_or, not_true_eq_false, not_false_eq_true, false_implies, Prod.mk.injEq, Fin.val_zero, Fin.val_one, Fin.isValue, Fin.reduceFinMk, Fin.val_two, mR_uI, mK_uI, mN_uI, mI_uR, mK_uR, mN_uR, mR_uC, mK_uC, mN_uC, Option.some.injEq, Sum.inl.injEq, Sum.inr.injEq, decide_true, decide_false, Bool.or_false, Bool.false_or, Bool.or_true, Bool.true_or, Nat.reduceBEq, beq_self_eq_true, show tb 124 = tb_124 from rfl, tb_124, tb_124_0, tb_124_1, pfb, pfb_b, pfb_c, pfb_v, pfa_b, pfa_c, pfa_v]
          refine ⟨rfl, hF2.tr (y2.w (fun _ h => h) (fun _ h => h.elim) (fun _ h => h)), (y2.2.1 8 (fun h => h)).trans w2, fun _ => ?_⟩
          rw [if_neg hsg]
          exact y1
      rcases his with rfl | rfl
      · by_cases hx2 : (x2 : Int) = (i1 : Int)
        · have hb : (true && (decide ((0 : Int) = 1) || decide (x2 ≠ i1))) = false := by simp; omega
          rw [hb]
          have w2' : mI M2 521 8 = (i1 : Int) := w2.trans hx2
          simp only [f_kG, psh, Nat.reduceAdd]
          refine G_w (pfb_ok X) LK_124 (fun i => false) 20 _ _ _ _ ?_
          simp only [f_0, f_s, f_iconst, f_bipush, f_sipush, f_ldc, f_ldc_w, f_ldc2_w, f_ldI, f_ldL, f_ldA, f_iload, f_iload_n, f_lload, f_lload_n, f_aload, f_aload_n, f_istore, f_istore_n, f_lstore, f_lstore_n, f_astore, f_astore_n, f_iinc, f_icI, f_iadd, f_isub, f_imul, f_idiv, f_irem, f_iand, f_ior, f_ixor, f_ishl, f_ishr, f_iushr, f_i2l, f_i2b, f_i2s, f_ladd, f_lmul, f_lcmp, f_dupI, f_dupR, f_dup2, f_pop, f_goto, f_if, f_icmp, f_tab, f_ts0, f_ts1, f_getI, f_getZ, f_getR, f_putI, f_putR, f_gets, f_iald, f_bald, f_aald, f_iast, f_bast, f_aast, f_alen, f_new, f_newa, f_anew, f_virt, f_stat0, f_stat1, f_spec0, f_spec1, f_spec9, f_copy, f_max, f_min, f_cV1, f_cV0, f_cS1, f_cS0, f_iret, f_lret, f_vret, f_kG, pf0, cIg, inR, lget, lset, lset2, clr, entL, cnd, psh, catS, tsw, List.take_succ_cons, List.take_zero, List.drop_succ_cons, List.drop_zero, List.reverse_cons, List.reverse_nil, List.nil_append, List.cons_append, List.length_cons, List.length_nil, List.replicate_succ, List.replicate_zero, Nat.reduceAdd, Nat.reduceSub, Nat.reduceLeDiff, Nat.reduceLT, Nat.reduceEqDiff, Nat.reduceMul, Nat.zero_add, Nat.add_zero, Nat.le_refl, Nat.zero_le, Int.reduceEq, Int.reduceToNat, Int.toNat_natCast, Int.reduceNeg, Int.reduceAdd, Int.reduceSub, Int.reduceMul, Int.reduceLT, Int.reduceLE, Int.reduceDiv, Int.reduceMod, Bool.false_eq_true, ↓reduceIte, true_and, and_true, implies_true, forall_const, true_or, or_true, or_false, false_or, not_true_eq_false, not_false_eq_true, false_implies, Prod.mk.injEq, Fin.val_zero, Fin.val_one, Fin.isValue, Fin.reduceFinMk, Fin.val_two, mR_uI, mK_uI, mN_uI, mI_uR, mK_uR, mN_uR, mR_uC, mK_uC, mN_uC, Option.some.injEq, Sum.inl.injEq, Sum.inr.injEq, decide_true, decide_false, Bool.or_false, Bool.false_or, Bool.or_true, Bool.true_or, Nat.reduceBEq, beq_self_eq_true, show tb 124 = tb_124 from rfl, tb_124, tb_124_0, tb_124_1, pfb, pfb_b, pfb_c, pfb_v, pfa_b, pfa_c, pfa_v, hs2.mk521, w2']
          exact ⟨rfl, hF2, w2, fun h => by simp at h⟩
        · have hgo := go 1 (by omega) (by simp) (Or.inr (by omega)) (hl31 rfl (by omega))
          simp only [f_kG, psh, Nat.reduceAdd]
          refine G_w (pfb_ok X) LK_124 (fun i => i == 44) 20 _ _ _ _ ?_
          simp only [f_0, f_s, f_iconst, f_bipush, f_sipush, f_ldc, f_ldc_w, f_ldc2_w, f_ldI, f_ldL, f_ldA, f_iload, f_iload_n, f_lload, f_lload_n, f_aload, f_aload_n, f_istore, f_istore_n, f_lstore, f_lstore_n, f_astore, f_astore_n, f_iinc, f_icI, f_iadd, f_isub, f_imul, f_idiv, f_irem, f_iand, f_ior, f_ixor, f_ishl, f_ishr, f_iushr, f_i2l, f_i2b, f_i2s, f_ladd, f_lmul, f_lcmp, f_dupI, f_dupR, f_dup2, f_pop, f_goto, f_if, f_icmp, f_tab, f_ts0, f_ts1, f_getI, f_getZ, f_getR, f_putI, f_putR, f_gets, f_iald, f_bald, f_aald, f_iast, f_bast, f_aast, f_alen, f_new, f_newa, f_anew, f_virt, f_stat0, f_stat1, f_spec0, f_spec1, f_spec9, f_copy, f_max, f_min, f_cV1, f_cV0, f_cS1, f_cS0, f_iret, f_lret, f_vret, f_kG, pf0, cIg, inR, lget, lset, lset2, clr, entL, cnd, psh, catS, tsw, List.take_succ_cons, List.take_zero, List.drop_succ_cons, List.drop_zero, List.reverse_cons, List.reverse_nil, List.nil_append, List.cons_append, List.length_cons, List.length_nil, List.replicate_succ, List.replicate_zero, Nat.reduceAdd, Nat.reduceSub, Nat.reduceLeDiff, Nat.reduceLT, Nat.reduceEqDiff, Nat.reduceMul, Nat.zero_add, Nat.add_zero, Nat.le_refl, Nat.zero_le, Int.reduceEq, Int.reduceToNat, Int.toNat_natCast, Int.reduceNeg, Int.reduceAdd, Int.reduceSub, Int.reduceMul, Int.reduceLT, Int.reduceLE, Int.reduceDiv, Int.reduceMod, Bool.false_eq_true, ↓reduceIte, true_and, and_true, implies_true, forall_const, true_or, or_true, or_false, false_or, not_true_eq_false, not_false_eq_true, false_implies, Prod.mk.injEq, Fin.val_zero, Fin.val_one, Fin.isValue, Fin.reduceFinMk, Fin.val_two, mR_uI, mK_uI, mN_uI, mI_uR, mK_uR, mN_uR, mR_uC, mK_uC, mN_uC, Option.some.injEq, Sum.inl.injEq, Sum.inr.injEq, decide_true, decide_false, Bool.or_false, Bool.false_or, Bool.or_true, Bool.true_or, Nat.reduceBEq, beq_self_eq_true, show tb 124 = tb_124 from rfl, tb_124, tb_124_0, tb_124_1, pfb, pfb_b, pfb_c, pfb_v, pfa_b, pfa_c, pfa_v, hs2.mk521, w2, hx2]
          exact hgo
      · have hgo := go num (hnum rfl) (by simp) (Or.inl rfl) (hl30 rfl)
        simp only [f_kG, psh, Nat.reduceAdd]
        refine G_w (pfb_ok X) LK_124 (fun i => i == 44) 20 _ _ _ _ ?_
        simp only [f_0, f_s, f_iconst, f_bipush, f_sipush, f_ldc, f_ldc_w, f_ldc2_w, f_ldI, f_ldL, f_ldA, f_iload, f_iload_n, f_lload, f_lload_n, f_aload, f_aload_n, f_istore, f_istore_n, f_lstore, f_lstore_n, f_astore, f_astore_n, f_iinc, f_icI, f_iadd, f_isub, f_imul, f_idiv, f_irem, f_iand, f_ior, f_ixor, f_ishl, f_ishr, f_iushr, f_i2l, f_i2b, f_i2s, f_ladd, f_lmul, f_lcmp, f_dupI, f_dupR, f_dup2, f_pop, f_goto, f_if, f_icmp, f_tab, f_ts0, f_ts1, f_getI, f_getZ, f_getR, f_putI, f_putR, f_gets, f_iald, f_bald, f_aald, f_iast, f_bast, f_aast, f_alen, f_new, f_newa, f_anew, f_virt, f_stat0, f_stat1, f_spec0, f_spec1, f_spec9, f_copy, f_max, f_min, f_cV1, f_cV0, f_cS1, f_cS0, f_iret, f_lret, f_vret, f_kG, pf0, cIg, inR, lget, lset, lset2, clr, entL, cnd, psh, catS, tsw, List.take_succ_cons, List.take_zero, List.drop_succ_cons, List.drop_zero, List.reverse_cons, List.reverse_nil, List.nil_append, List.cons_append, List.length_cons, List.length_nil, List.replicate_succ, List.replicate_zero, Nat.reduceAdd, Nat.reduceSub, Nat.reduceLeDiff, Nat.reduceLT, Nat.reduceEqDiff, Nat.reduceMul, Nat.zero_add, Nat.add_zero, Nat.le_refl, Nat.zero_le, Int.reduceEq, Int.reduceToNat, Int.toNat_natCast, Int.reduceNeg, Int.reduceAdd, Int.reduceSub, Int.reduceMul, Int.reduceLT, Int.reduceLE, Int.reduceDiv, Int.reduceMod, Bool.false_eq_true, ↓reduceIte, true_and, and_true, implies_true, forall_const, true_or, or_true, or_false, false_or, not_true_eq_false, not_false_eq_true, false_implies, Prod.mk.injEq, Fin.val_zero, Fin.val_one, Fin.isValue, Fin.reduceFinMk, Fin.val_two, mR_uI, mK_uI, mN_uI, mI_uR, mK_uR, mN_uR, mR_uC, mK_uC, mN_uC, Option.some.injEq, Sum.inl.injEq, Sum.inr.injEq, decide_true, decide_false, Bool.or_false, Bool.false_or, Bool.or_true, Bool.true_or, Nat.reduceBEq, beq_self_eq_true, show tb 124 = tb_124 from rfl, tb_124, tb_124_0, tb_124_1, pfb, pfb_b, pfb_c, pfb_v, pfa_b, pfa_c, pfa_v]
        exact hgo
  have lt_e15 : ∀ (k : Nat) (R : List Int) (i : Nat) (p : Int), e15 p → e15 (ltR k R i p).2.2 := by
    intro k
    induction k with
    | zero => intro R i p he; rw [ltR]; exact he
    | succ k ih =>
      intro R i p he
      cases R with
      | nil => rw [ltR]; exact he
      | cons b R1 =>
        rw [ltR_cons]
        split
        · rename_i hb
          have hl : 0 ≤ b - 120 ∧ b - 120 ≤ 2 := by omega
          split
          · rename_i h15
            have u1 := (up_e15 he hl (show (0 : Int) ≤ 1 by omega) h15).1
            cases R1 with
            | nil => exact u1
            | cons c R2 =>
              simp only
              split
              · rename_i hc
                split
                · rename_i h16
                  exact ih _ _ _ (up_e15 u1 hl (show 0 ≤ c - 49 by omega) h16).1
                · exact u1
              · exact ih _ _ _ u1
          · exact he
        · exact he
  have lt_mv : ∀ (R : List Int) (i : Nat), R.length ≤ 30 → (ltR 31 R i 0).1 = true → (ltR 31 R i 0).2.1 ≠ i → R ≠ [] := by
    intro R i hR h1 h2 he
    subst he
    rw [ltR] at h2
    exact h2 rfl
  have hs0 := hs
  refine Ev_of mcd_124 mok_124 (by decide) rfl (Nat.le_of_ble_eq_true rfl) ?_
  rw [show yl 124 = 7 from rfl]
  refine G_w (pfb_ok X) LK_124 (fun i => false) 20 _ _ _ _ ?_
  simp only [f_0, f_s, f_iconst, f_bipush, f_sipush, f_ldc, f_ldc_w, f_ldc2_w, f_ldI, f_ldL, f_ldA, f_iload, f_iload_n, f_lload, f_lload_n, f_aload, f_aload_n, f_istore, f_istore_n, f_lstore, f_lstore_n, f_astore, f_astore_n, f_iinc, f_icI, f_iadd, f_isub, f_imul, f_idiv, f_irem, f_iand, f_ior, f_ixor, f_ishl, f_ishr, f_iushr, f_i2l, f_i2b, f_i2s, f_ladd, f_lmul, f_lcmp, f_dupI, f_dupR, f_dup2, f_pop, f_goto, f_if, f_icmp, f_tab, f_ts0, f_ts1, f_getI, f_getZ, f_getR, f_putI, f_putR, f_gets, f_iald, f_bald, f_aald, f_iast, f_bast, f_aast, f_alen, f_new, f_newa, f_anew, f_virt, f_stat0, f_stat1, f_spec0, f_spec1, f_spec9, f_copy, f_max, f_min, f_cV1, f_cV0, f_cS1, f_cS0, f_iret, f_lret, f_vret, f_kG, pf0, cIg, inR, lget, lset, lset2, clr, entL, cnd, psh, catS, tsw, List.take_succ_cons, List.take_zero, List.drop_succ_cons, List.drop_zero, List.reverse_cons, List.reverse_nil, List.nil_append, List.cons_append, List.length_cons, List.length_nil, List.replicate_succ, List.replicate_zero, Nat.reduceAdd, Nat.reduceSub, Nat.reduceLeDiff, Nat.reduceLT, Nat.reduceEqDiff, Nat.reduceMul, Nat.zero_add, Nat.add_zero, Nat.le_refl, Nat.zero_le, Int.reduceEq, Int.reduceToNat, Int.toNat_natCast, Int.reduceNeg, Int.reduceAdd, Int.reduceSub, Int.reduceMul, Int.reduceLT, Int.reduceLE, Int.reduceDiv, Int.reduceMod, Bool.false_eq_true, ↓reduceIte, true_and, and_true, implies_true, forall_const, true_or, or_true, or_false, false_or, not_true_eq_false, not_false_eq_true, false_implies, Prod.mk.injEq, Fin.val_zero, Fin.val_one, Fin.isValue, Fin.reduceFinMk, Fin.val_two, mR_uI, mK_uI, mN_uI, mI_uR, mK_uR, mN_uR, mR_uC, mK_uC, mN_uC, Option.some.injEq, Sum.inl.injEq, Sum.inr.injEq, decide_true, decide_false, Bool.or_false, Bool.false_or, Bool.or_true, Bool.true_or, Nat.reduceBEq, beq_self_eq_true, show tb 124 = tb_124 from rfl, tb_124, tb_124_0, tb_124_1, pfb, pfb_b, pfb_c, pfb_v, pfa_b, pfa_c, pfa_v, hs.mk521, hat]
  refine Ev_mono (e_mbyteAt X M t i B hs hB (by omega)) (fun r M1 hr _ _ => ?_)
  obtain ⟨rfl, hM1⟩ := hr
  subst hM1
  cases hd : B.drop i with
  | nil =>
    rw [gd_nil hd]
    have hif : (if (1 : Int) ≤ -1 - 48 ∧ (-1 : Int) - 48 ≤ 9 then (1 : Int) else 0) = 0 := if_neg (by omega)
    have e0 : (i : Int) + 0 = i := Int.add_zero _
    have hsame : Fr M1 (uI M1 521 8 (i : Int)) (fun a => a = t) (fun k => k = 8 ∨ k = 9) NN := (Fr.rf M1 _ _ _).uf (Or.inl rfl)
    have hn := rest 0 i (-1 - 48) (uI M1 521 8 (i : Int)) (Or.inl rfl) (fun h => by omega) hi hlen (fun h => by omega) mI_uI_eq hsame (by
      refine ⟨(mI_uI_ne (by omega)).trans hL.1, hL.2.1, fun j u hu => (mI_uI_ne (by omega)).trans (hL.2.2 j u hu)⟩) (fun _ h => by rw [hd] at h; exact absurd rfl h) (fun x hx => Or.inl (by rw [hx]; exact lt_e15 _ _ _ _ e15_0))
    rw [hd] at hn
    have hres : ((ltR 31 [] i 0).1 && (decide ((0 : Int) = 1) || decide ((ltR 31 [] i 0).2.1 ≠ i)), (ltR 31 [] i 0).2.1, (if (0 : Int) = 1 then (-1 - 48 : Int) else 1), (ltR 31 [] i 0).2.2) = tmF [] i := by unfold tmF; rw [ltR]; simp
    rw [hres] at hn
    simp only [f_kG, psh, Nat.reduceAdd]
    refine G_w (pfb_ok X) LK_124 (fun i => i == 23) 20 _ _ _ _ ?_
    simp only [f_0, f_s, f_iconst, f_bipush, f_sipush, f_ldc, f_ldc_w, f_ldc2_w, f_ldI, f_ldL, f_ldA, f_iload, f_iload_n, f_lload, f_lload_n, f_aload, f_aload_n, f_istore, f_istore_n, f_lstore, f_lstore_n, f_astore, f_astore_n, f_iinc, f_icI, f_iadd, f_isub, f_imul, f_idiv, f_irem, f_iand, f_ior, f_ixor, f_ishl, f_ishr, f_iushr, f_i2l, f_i2b, f_i2s, f_ladd, f_lmul, f_lcmp, f_dupI, f_dupR, f_dup2, f_pop, f_goto, f_if, f_icmp, f_tab, f_ts0, f_ts1, f_getI, f_getZ, f_getR, f_putI, f_putR, f_gets, f_iald, f_bald, f_aald, f_iast, f_bast, f_aast, f_alen, f_new, f_newa, f_anew, f_virt, f_stat0, f_stat1, f_spec0, f_spec1, f_spec9, f_copy, f_max, f_min, f_cV1, f_cV0, f_cS1, f_cS0, f_iret, f_lret, f_vret, f_kG, pf0, cIg, inR, lget, lset, lset2, clr, entL, cnd, psh, catS, tsw, List.take_succ_cons, List.take_zero, List.drop_succ_cons, List.drop_zero, List.reverse_cons, List.reverse_nil, List.nil_append, List.cons_append, List.length_cons, List.length_nil, List.replicate_succ, List.replicate_zero, Nat.reduceAdd, Nat.reduceSub, Nat.reduceLeDiff, Nat.reduceLT, Nat.reduceEqDiff, Nat.reduceMul, Nat.zero_add, Nat.add_zero, Nat.le_refl, Nat.zero_le, Int.reduceEq, Int.reduceToNat, Int.toNat_natCast, Int.reduceNeg, Int.reduceAdd, Int.reduceSub, Int.reduceMul, Int.reduceLT, Int.reduceLE, Int.reduceDiv, Int.reduceMod, Bool.false_eq_true, ↓reduceIte, true_and, and_true, implies_true, forall_const, true_or, or_true, or_false, false_or, not_true_eq_false, not_false_eq_true, false_implies, Prod.mk.injEq, Fin.val_zero, Fin.val_one, Fin.isValue, Fin.reduceFinMk, Fin.val_two, mR_uI, mK_uI, mN_uI, mI_uR, mK_uR, mN_uR, mR_uC, mK_uC, mN_uC, Option.some.injEq, Sum.inl.injEq, Sum.inr.injEq, decide_true, decide_false, Bool.or_false, Bool.false_or, Bool.or_true, Bool.true_or, Nat.reduceBEq, beq_self_eq_true, show tb 124 = tb_124 from rfl, tb_124, tb_124_0, tb_124_1, pfb, pfb_b, pfb_c, pfb_v, pfa_b, pfa_c, pfa_v, hif, hs.mk521, hat, e0]
    (repeat' (first | with_reducible apply And.intro | with_reducible intro _)) <;> (try omega)
    all_goals exact hn
  | cons d R1 =>
    obtain ⟨d1, d2, d3⟩ := drop_cons hd
    have hbd := hB.2.2.2 d (List.mem_of_getElem? d1)
    rw [gd_drop hd]
    by_cases hf : 49 ≤ d ∧ d ≤ 57
    · have hif : (if (1 : Int) ≤ d - 48 ∧ d - 48 ≤ 9 then (1 : Int) else 0) = 1 := if_pos (by omega)
      have hn := rest 1 (i + 1) (d - 48) (uI M1 521 8 ((i : Int) + 1)) (Or.inr rfl) (fun _ => by omega) (by omega) (by omega) (fun _ => by omega) (by rw [mI_uI_eq]; omega) ((Fr.rf M1 _ _ _).uf (Or.inl rfl)) (by
        refine ⟨(mI_uI_ne (by omega)).trans hL.1, hL.2.1, fun j u hu => (mI_uI_ne (by omega)).trans (hL.2.2 j u hu)⟩) (fun h => by omega) (fun x hx => Or.inl (by rw [hx]; exact lt_e15 _ _ _ _ e15_0))
      rw [d2] at hn
      have hres : ((ltR 31 R1 (i + 1) 0).1 && (decide ((1 : Int) = 1) || decide ((ltR 31 R1 (i + 1) 0).2.1 ≠ i + 1)), (ltR 31 R1 (i + 1) 0).2.1, (if (1 : Int) = 1 then d - 48 else 1), (ltR 31 R1 (i + 1) 0).2.2) = tmF (d :: R1) i := by unfold tmF; simp only [if_pos hf]; simp
      rw [hres] at hn
      simp only [f_kG, psh, Nat.reduceAdd]
      refine G_w (pfb_ok X) LK_124 (fun i => i == 23) 20 _ _ _ _ ?_
      simp only [f_0, f_s, f_iconst, f_bipush, f_sipush, f_ldc, f_ldc_w, f_ldc2_w, f_ldI, f_ldL, f_ldA, f_iload, f_iload_n, f_lload, f_lload_n, f_aload, f_aload_n, f_istore, f_istore_n, f_lstore, f_lstore_n, f_astore, f_astore_n, f_iinc, f_icI, f_iadd, f_isub, f_imul, f_idiv, f_irem, f_iand, f_ior, f_ixor, f_ishl, f_ishr, f_iushr, f_i2l, f_i2b, f_i2s, f_ladd, f_lmul, f_lcmp, f_dupI, f_dupR, f_dup2, f_pop, f_goto, f_if, f_icmp, f_tab, f_ts0, f_ts1, f_getI, f_getZ, f_getR, f_putI, f_putR, f_gets, f_iald, f_bald, f_aald, f_iast, f_bast, f_aast, f_alen, f_new, f_newa, f_anew, f_virt, f_stat0, f_stat1, f_spec0, f_spec1, f_spec9, f_copy, f_max, f_min, f_cV1, f_cV0, f_cS1, f_cS0, f_iret, f_lret, f_vret, f_kG, pf0, cIg, inR, lget, lset, lset2, clr, entL, cnd, psh, catS, tsw, List.take_succ_cons, List.take_zero, List.drop_succ_cons, List.drop_zero, List.reverse_cons, List.reverse_nil, List.nil_append, List.cons_append, List.length_cons, List.length_nil, List.replicate_succ, List.replicate_zero, Nat.reduceAdd, Nat.reduceSub, Nat.reduceLeDiff, Nat.reduceLT, Nat.reduceEqDiff, Nat.reduceMul, Nat.zero_add, Nat.add_zero, Nat.le_refl, Nat.zero_le, Int.reduceEq, Int.reduceToNat, Int.toNat_natCast, Int.reduceNeg, Int.reduceAdd, Int.reduceSub, Int.reduceMul, Int.reduceLT, Int.reduceLE, Int.reduceDiv, Int.reduceMod, Bool.false_eq_true, ↓reduceIte, true_and, and_true, implies_true, forall_const, true_or, or_true, or_false, false_or, not_true_eq_false, not_false_eq_true, false_implies, Prod.mk.injEq, Fin.val_zero, Fin.val_one, Fin.isValue, Fin.reduceFinMk, Fin.val_two, mR_uI, mK_uI, mN_uI, mI_uR, mK_uR, mN_uR, mR_uC, mK_uC, mN_uC, Option.some.injEq, Sum.inl.injEq, Sum.inr.injEq, decide_true, decide_false, Bool.or_false, Bool.false_or, Bool.or_true, Bool.true_or, Nat.reduceBEq, beq_self_eq_true, show tb 124 = tb_124 from rfl, tb_124, tb_124_0, tb_124_1, pfb, pfb_b, pfb_c, pfb_v, pfa_b, pfa_c, pfa_v, hif, hs.mk521, hat]
      (repeat' (first | with_reducible apply And.intro | with_reducible intro _)) <;> (try omega)
      all_goals exact hn
    · have hif : (if (1 : Int) ≤ d - 48 ∧ d - 48 ≤ 9 then (1 : Int) else 0) = 0 := if_neg (by omega)
      have e0 : (i : Int) + 0 = i := Int.add_zero _
      have hn := rest 0 i (d - 48) (uI M1 521 8 (i : Int)) (Or.inl rfl) (fun h => by omega) hi hlen (fun h => by omega) mI_uI_eq ((Fr.rf M1 _ _ _).uf (Or.inl rfl)) (by
        refine ⟨(mI_uI_ne (by omega)).trans hL.1, hL.2.1, fun j u hu => (mI_uI_ne (by omega)).trans (hL.2.2 j u hu)⟩) (fun _ _ => by omega) (fun x hx => Or.inl (by rw [hx]; exact lt_e15 _ _ _ _ e15_0))
      rw [hd] at hn
      have hres : ((ltR 31 (d :: R1) i 0).1 && (decide ((0 : Int) = 1) || decide ((ltR 31 (d :: R1) i 0).2.1 ≠ i)), (ltR 31 (d :: R1) i 0).2.1, (if (0 : Int) = 1 then d - 48 else 1), (ltR 31 (d :: R1) i 0).2.2) = tmF (d :: R1) i := by unfold tmF; simp only [if_neg hf]; simp
      rw [hres] at hn
      simp only [f_kG, psh, Nat.reduceAdd]
      refine G_w (pfb_ok X) LK_124 (fun i => i == 23) 20 _ _ _ _ ?_
      simp only [f_0, f_s, f_iconst, f_bipush, f_sipush, f_ldc, f_ldc_w, f_ldc2_w, f_ldI, f_ldL, f_ldA, f_iload, f_iload_n, f_lload, f_lload_n, f_aload, f_aload_n, f_istore, f_istore_n, f_lstore, f_lstore_n, f_astore, f_astore_n, f_iinc, f_icI, f_iadd, f_isub, f_imul, f_idiv, f_irem, f_iand, f_ior, f_ixor, f_ishl, f_ishr, f_iushr, f_i2l, f_i2b, f_i2s, f_ladd, f_lmul, f_lcmp, f_dupI, f_dupR, f_dup2, f_pop, f_goto, f_if, f_icmp, f_tab, f_ts0, f_ts1, f_getI, f_getZ, f_getR, f_putI, f_putR, f_gets, f_iald, f_bald, f_aald, f_iast, f_bast, f_aast, f_alen, f_new, f_newa, f_anew, f_virt, f_stat0, f_stat1, f_spec0, f_spec1, f_spec9, f_copy, f_max, f_min, f_cV1, f_cV0, f_cS1, f_cS0, f_iret, f_lret, f_vret, f_kG, pf0, cIg, inR, lget, lset, lset2, clr, entL, cnd, psh, catS, tsw, List.take_succ_cons, List.take_zero, List.drop_succ_cons, List.drop_zero, List.reverse_cons, List.reverse_nil, List.nil_append, List.cons_append, List.length_cons, List.length_nil, List.replicate_succ, List.replicate_zero, Nat.reduceAdd, Nat.reduceSub, Nat.reduceLeDiff, Nat.reduceLT, Nat.reduceEqDiff, Nat.reduceMul, Nat.zero_add, Nat.add_zero, Nat.le_refl, Nat.zero_le, Int.reduceEq, Int.reduceToNat, Int.toNat_natCast, Int.reduceNeg, Int.reduceAdd, Int.reduceSub, Int.reduceMul, Int.reduceLT, Int.reduceLE, Int.reduceDiv, Int.reduceMod, Bool.false_eq_true, ↓reduceIte, true_and, and_true, implies_true, forall_const, true_or, or_true, or_false, false_or, not_true_eq_false, not_false_eq_true, false_implies, Prod.mk.injEq, Fin.val_zero, Fin.val_one, Fin.isValue, Fin.reduceFinMk, Fin.val_two, mR_uI, mK_uI, mN_uI, mI_uR, mK_uR, mN_uR, mR_uC, mK_uC, mN_uC, Option.some.injEq, Sum.inl.injEq, Sum.inr.injEq, decide_true, decide_false, Bool.or_false, Bool.false_or, Bool.or_true, Bool.true_or, Nat.reduceBEq, beq_self_eq_true, show tb 124 = tb_124 from rfl, tb_124, tb_124_0, tb_124_1, pfb, pfb_b, pfb_c, pfb_v, pfa_b, pfa_c, pfa_v, hif, hs.mk521, hat, e0]
      (repeat' (first | with_reducible apply And.intro | with_reducible intro _)) <;> (try omega)
      all_goals exact hn
