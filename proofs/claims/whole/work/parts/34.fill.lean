/-! fillPile -/
theorem addT_len (o n q : Int) (L : Po) : (addT o n q L).length ≤ L.length + 1 := by
  unfold addT
  split
  · split
    · split
      · rw [List.length_eraseIdx]; split <;> omega
      · rw [List.length_set]; omega
    · rw [List.length_insertIdx]; split <;> omega
  · rw [List.length_insertIdx]; split <;> omega
theorem addT_ok {o n q : Int} {L : Po} (h : okP L) (hn : 1 ≤ n ∧ n ≤ 30) (hq : isPr q) : okP (addT o n q L) := by
  have hins : okP (L.insertIdx (idx o q L) (n, q)) := by
    intro t ht
    rw [List.mem_insertIdx (idx_le o q L)] at ht
    rcases ht with rfl | ht
    · exact ⟨hn, hq⟩
    · exact h t ht
  unfold addT
  split
  · rename_i u hu
    split
    · split
      · intro t ht; exact h t (List.mem_of_mem_eraseIdx ht)
      · intro t ht
        rcases List.mem_or_eq_of_mem_set ht with ht | rfl
        · exact h t ht
        · have := mod31 (u.1 + n)
          exact ⟨by simp only; omega, hq⟩
    · exact hins
  · exact hins
/-- the same terms, as an order has them -/
def rso (o : Int) (A : Po) (L : Po) : Po := L.foldl (fun acc t => addT o t.1 t.2 acc) A
/-- what comes to the pile, from the place g on -/
def filF (o : Int) (lo : Int) : List Po → Nat → List Po → List Po
  | [], _, pl => pl
  | L :: Ls, g, pl => if (g : Int) = lo ∨ L = [] then filF o lo Ls (g + 1) pl else filF o lo Ls (g + 1) (pl ++ [mon (rso o [] L)])
/-- an array of polynomials -/
def VA (M : Mem) (va : Nat) (vs : List Nat) (Ls : List Po) : Prop := mK M va = 32 ∧ mN M va = 7 ∧ vs.length = 6 ∧ Ls.length = 6 ∧ (∀ (j v : Nat), vs[j]? = some v → mR M va j = some v ∧ PA M v ∧ v + 2 < 59) ∧ ∀ (j : Nat) (L : Po), Ls[j]? = some L → ∃ v, vs[j]? = some v ∧ PL M v L ∧ okP L
theorem VA_same {M M' : Mem} {va c : Nat} {vs : List Nat} {Ls : List Po} (h : VA M va vs Ls) (hS : Same M M' (CR c)) (hc : c = 361 ∨ c = 441) : VA M' va vs Ls := by
  obtain ⟨h1, h2, h3, h4, h5, h6⟩ := h
  refine ⟨(hS.1 _).trans h1, (hS.2.1 _).trans h2, h3, h4, fun j v hv => ?_, fun j L hL => ?_⟩
  · obtain ⟨a, b, d⟩ := h5 j v hv
    exact ⟨(hS.2.2.1 _ _).trans a, hS.pa b, d⟩
  · obtain ⟨v, a, b, d⟩ := h6 j L hL
    have hv := (h5 j v a).2.2
    exact ⟨v, a, PL_same b hS.2.2.2 (by unfold CR; omega) (by unfold CR; omega) (by unfold CR; omega), d⟩
/-- how fillPile ends -/
def FD (M : Mem) (c : Nat) (qs : List Nat) (pl : List Po) (r : Option AV) (M' : Mem) : Prop := r = none ∧ Same M M' (CR c) ∧ PB M' 59 100 qs pl ∧ mI M' (c + 1) 1 = mI M (c + 1) 1
set_option maxRecDepth 100000 in
set_option maxHeartbeats 4000000 in
theorem e_fillPile (X : CX) (M : Mem) (c va : Nat) (o lo : Int) (ps qs vs : List Nat) (Ls : List Po) (hW : CW M c o ps qs) (hr : RA M 59 100 qs) (hv : VA M va vs Ls) : Ev X y_Completion_fillPile (0, 0) [aR (some c), aR (some va), aI lo] M (FD M c qs (filF o lo Ls 0 [])) := by
  obtain ⟨hE, hcc, hca, ho, ho2, htk, hrp, hrq⟩ := hW
  obtain ⟨c1, c2, c3, c4, c5, c6, c7, c8⟩ := hca
  have loop : ∀ (Ls2 : List Po) (g : Nat) (pl : List Po) (M1 : Mem) (v4 : Option AV), Ls.drop g = Ls2 → g ≤ 6 → pl.length ≤ g → PB M1 59 100 qs pl → Same M M1 (CR c) → mI M1 (c + 1) 1 = mI M (c + 1) 1 → G X y_Completion_fillPile (mZ M, mS M, 0, 0) 6 [some (aR (some c)), some (aR (some va)), some (aI lo), some (aI g), v4] [] M1 (FD M c qs (filF o lo Ls2 g pl)) := by
    intro Ls2
    induction Ls2 with
    | nil =>
      intro g pl M1 v4 hdr hg hpl hp hS hm
      have h6 : g = 6 := by have := drop_nil hdr (by rw [hv.2.2.2.1]; exact hg); rw [hv.2.2.2.1] at this; omega
      subst h6
      refine G_w (pfb_ok X) LK_42 (fun i => i == 6 || i == 28) 20 _ _ _ _ ?_
      simp only [f_0, f_s, f_iconst, f_bipush, f_sipush, f_ldc, f_ldc_w, f_ldc2_w, f_ldI, f_ldL, f_ldA, f_iload, f_iload_n, f_lload, f_lload_n, f_aload, f_aload_n, f_istore, f_istore_n, f_lstore, f_lstore_n, f_astore, f_astore_n, f_iinc, f_icI, f_iadd, f_isub, f_imul, f_idiv, f_irem, f_iand, f_ior, f_ixor, f_ishl, f_ishr, f_iushr, f_i2l, f_i2b, f_i2s, f_ladd, f_lmul, f_lcmp, f_dupI, f_dupR, f_dup2, f_pop, f_goto, f_if, f_icmp, f_tab, f_ts0, f_ts1, f_getI, f_getZ, f_getR, f_putI, f_putR, f_gets, f_iald, f_bald, f_aald, f_iast, f_bast, f_aast, f_alen, f_new, f_newa, f_anew, f_virt, f_stat0, f_stat1, f_spec0, f_spec1, f_spec9, f_copy, f_max, f_min, f_cV1, f_cV0, f_cS1, f_cS0, f_iret, f_lret, f_vret, f_kG, pf0, cIg, inR, lget, lset, lset2, clr, entL, cnd, psh, catS, tsw, List.take_succ_cons, List.take_zero, List.drop_succ_cons, List.drop_zero, List.reverse_cons, List.reverse_nil, List.nil_append, List.cons_append, List.length_cons, List.length_nil, List.replicate_succ, List.replicate_zero, Nat.reduceAdd, Nat.reduceSub, Nat.reduceLeDiff, Nat.reduceLT, Nat.reduceEqDiff, Nat.reduceMul, Nat.zero_add, Nat.add_zero, Nat.le_refl, Nat.zero_le, Int.reduceEq, Int.reduceToNat, Int.toNat_natCast, Int.reduceNeg, Int.reduceAdd, Int.reduceSub, Int.reduceMul, Int.reduceLT, Int.reduceLE, Int.reduceDiv, Int.reduceMod, Bool.false_eq_true, ↓reduceIte, true_and, and_true, implies_true, forall_const, true_or, or_true, or_false, false_or, not_true_eq_false, not_false_eq_true, false_implies, Prod.mk.injEq, Fin.val_zero, Fin.val_one, Fin.isValue, Fin.reduceFinMk, Fin.val_two, mR_uI, mK_uI, mN_uI, mI_uR, mK_uR, mN_uR, mR_uC, mK_uC, mN_uC, Option.some.injEq, Sum.inl.injEq, Sum.inr.injEq, decide_true, decide_false, Bool.or_false, Bool.false_or, Bool.or_true, Bool.true_or, Nat.reduceBEq, beq_self_eq_true, show tb 42 = tb_42 from rfl, tb_42, tb_42_0, tb_42_1, tb_42_2, pfb, pfb_b, pfb_c, pfb_v, pfa_b, pfa_c, pfa_v]
      (repeat' (first | with_reducible apply And.intro | with_reducible intro _)) <;> (try omega)
      all_goals exact ⟨rfl, hS, hp, hm⟩
    | cons L Ls2 ih =>
      intro g pl M1 v4 hdr hg hpl hp hS hm
      obtain ⟨h1, h2, h3⟩ := drop_cons hdr
      rw [hv.2.2.2.1] at h3
      have hv1 := VA_same hv hS hcc
      have hv1' := hv1
      obtain ⟨a1, a2, a3, a4, a5, a6⟩ := hv1'
      obtain ⟨v, b1, b2, b3⟩ := a6 g L h1
      obtain ⟨b4, b5, b6⟩ := a5 g v b1
      have b7 := b5.1
      have b8 := b2.1
      have k1 := (hS.1 c).trans c1
      have k2 := (hS.2.2.1 c 5).trans c4
      have k3 := (hS.1 (c + 75)).trans htk.1
      by_cases hlo : (g : Int) = lo
      · rw [filF, if_pos (Or.inl hlo)]
        refine G_w (pfb_ok X) LK_42 (fun i => i == 6 || i == 28) 20 _ _ _ _ ?_
        simp only [f_0, f_s, f_iconst, f_bipush, f_sipush, f_ldc, f_ldc_w, f_ldc2_w, f_ldI, f_ldL, f_ldA, f_iload, f_iload_n, f_lload, f_lload_n, f_aload, f_aload_n, f_istore, f_istore_n, f_lstore, f_lstore_n, f_astore, f_astore_n, f_iinc, f_icI, f_iadd, f_isub, f_imul, f_idiv, f_irem, f_iand, f_ior, f_ixor, f_ishl, f_ishr, f_iushr, f_i2l, f_i2b, f_i2s, f_ladd, f_lmul, f_lcmp, f_dupI, f_dupR, f_dup2, f_pop, f_goto, f_if, f_icmp, f_tab, f_ts0, f_ts1, f_getI, f_getZ, f_getR, f_putI, f_putR, f_gets, f_iald, f_bald, f_aald, f_iast, f_bast, f_aast, f_alen, f_new, f_newa, f_anew, f_virt, f_stat0, f_stat1, f_spec0, f_spec1, f_spec9, f_copy, f_max, f_min, f_cV1, f_cV0, f_cS1, f_cS0, f_iret, f_lret, f_vret, f_kG, pf0, cIg, inR, lget, lset, lset2, clr, entL, cnd, psh, catS, tsw, List.take_succ_cons, List.take_zero, List.drop_succ_cons, List.drop_zero, List.reverse_cons, List.reverse_nil, List.nil_append, List.cons_append, List.length_cons, List.length_nil, List.replicate_succ, List.replicate_zero, Nat.reduceAdd, Nat.reduceSub, Nat.reduceLeDiff, Nat.reduceLT, Nat.reduceEqDiff, Nat.reduceMul, Nat.zero_add, Nat.add_zero, Nat.le_refl, Nat.zero_le, Int.reduceEq, Int.reduceToNat, Int.toNat_natCast, Int.reduceNeg, Int.reduceAdd, Int.reduceSub, Int.reduceMul, Int.reduceLT, Int.reduceLE, Int.reduceDiv, Int.reduceMod, Bool.false_eq_true, ↓reduceIte, true_and, and_true, implies_true, forall_const, true_or, or_true, or_false, false_or, not_true_eq_false, not_false_eq_true, false_implies, Prod.mk.injEq, Fin.val_zero, Fin.val_one, Fin.isValue, Fin.reduceFinMk, Fin.val_two, mR_uI, mK_uI, mN_uI, mI_uR, mK_uR, mN_uR, mR_uC, mK_uC, mN_uC, Option.some.injEq, Sum.inl.injEq, Sum.inr.injEq, decide_true, decide_false, Bool.or_false, Bool.false_or, Bool.or_true, Bool.true_or, Nat.reduceBEq, beq_self_eq_true, show tb 42 = tb_42 from rfl, tb_42, tb_42_0, tb_42_1, tb_42_2, pfb, pfb_b, pfb_c, pfb_v, pfa_b, pfa_c, pfa_v, a1, a2, hlo]
        refine ⟨fun h => by omega, fun _ => ⟨fun h => by omega, fun _ => ⟨by omega, ?_⟩⟩⟩
        rw [show lo + 1 = ((g + 1 : Nat) : Int) by omega]
        exact ih (g + 1) pl M1 v4 h2 (by omega) (by omega) hp hS hm
      · by_cases hL0 : L = []
        · rw [filF, if_pos (Or.inr hL0)]
          subst hL0
          refine G_w (pfb_ok X) LK_42 (fun i => i == 6 || i == 28) 20 _ _ _ _ ?_
          simp only [f_0, f_s, f_iconst, f_bipush, f_sipush, f_ldc, f_ldc_w, f_ldc2_w, f_ldI, f_ldL, f_ldA, f_iload, f_iload_n, f_lload, f_lload_n, f_aload, f_aload_n, f_istore, f_istore_n, f_lstore, f_lstore_n, f_astore, f_astore_n, f_iinc, f_icI, f_iadd, f_isub, f_imul, f_idiv, f_irem, f_iand, f_ior, f_ixor, f_ishl, f_ishr, f_iushr, f_i2l, f_i2b, f_i2s, f_ladd, f_lmul, f_lcmp, f_dupI, f_dupR, f_dup2, f_pop, f_goto, f_if, f_icmp, f_tab, f_ts0, f_ts1, f_getI, f_getZ, f_getR, f_putI, f_putR, f_gets, f_iald, f_bald, f_aald, f_iast, f_bast, f_aast, f_alen, f_new, f_newa, f_anew, f_virt, f_stat0, f_stat1, f_spec0, f_spec1, f_spec9, f_copy, f_max, f_min, f_cV1, f_cV0, f_cS1, f_cS0, f_iret, f_lret, f_vret, f_kG, pf0, cIg, inR, lget, lset, lset2, clr, entL, cnd, psh, catS, tsw, List.take_succ_cons, List.take_zero, List.drop_succ_cons, List.drop_zero, List.reverse_cons, List.reverse_nil, List.nil_append, List.cons_append, List.length_cons, List.length_nil, List.replicate_succ, List.replicate_zero, Nat.reduceAdd, Nat.reduceSub, Nat.reduceLeDiff, Nat.reduceLT, Nat.reduceEqDiff, Nat.reduceMul, Nat.zero_add, Nat.add_zero, Nat.le_refl, Nat.zero_le, Int.reduceEq, Int.reduceToNat, Int.toNat_natCast, Int.reduceNeg, Int.reduceAdd, Int.reduceSub, Int.reduceMul, Int.reduceLT, Int.reduceLE, Int.reduceDiv, Int.reduceMod, Bool.false_eq_true, ↓reduceIte, true_and, and_true, implies_true, forall_const, true_or, or_true, or_false, false_or, not_true_eq_false, not_false_eq_true, false_implies, Prod.mk.injEq, Fin.val_zero, Fin.val_one, Fin.isValue, Fin.reduceFinMk, Fin.val_two, mR_uI, mK_uI, mN_uI, mI_uR, mK_uR, mN_uR, mR_uC, mK_uC, mN_uC, Option.some.injEq, Sum.inl.injEq, Sum.inr.injEq, decide_true, decide_false, Bool.or_false, Bool.false_or, Bool.or_true, Bool.true_or, Nat.reduceBEq, beq_self_eq_true, show tb 42 = tb_42 from rfl, tb_42, tb_42_0, tb_42_1, tb_42_2, pfb, pfb_b, pfb_c, pfb_v, pfa_b, pfa_c, pfa_v, a1, a2, hlo, b4, b7, b8]
          refine ⟨fun h => by omega, fun _ => ⟨fun h => by omega, fun _ => ⟨by omega, fun h => absurd rfl h, fun _ => ⟨by omega, ?_⟩⟩⟩⟩
          exact ih (g + 1) pl M1 v4 h2 (by omega) (by omega) hp hS hm
        · rw [filF, if_neg (fun h => by rcases h with h | h; exact hlo h; exact hL0 h)]
          have hL1 : 0 < L.length := List.length_pos_iff.mpr hL0
          have hL30 := b2.2.1
          have inner : ∀ (R A : Po) (i : Nat) (M1 : Mem), L.drop i = R → i ≤ L.length → A.length ≤ i → okP A → rso o A R = rso o [] L → PL M1 (c + 75) A → PB M1 59 100 qs pl → Same M M1 (CR c) → mI M1 (c + 1) 1 = mI M (c + 1) 1 → G X y_Completion_fillPile (mZ M, mS M, 0, 0) 28 [some (aR (some c)), some (aR (some va)), some (aI lo), some (aI g), some (aI i)] [] M1 (FD M c qs (filF o lo Ls2 (g + 1) (pl ++ [mon (rso o [] L)]))) := by
            intro R
            induction R with
            | nil =>
              intro A i M1 hdi hi hA okA hAR hLA hp hS hm
              have hi2 := drop_nil hdi hi
              have hA2 : A = rso o [] L := hAR
              obtain ⟨d1, d2, d3, d4, d5, d6⟩ := VA_same hv hS hcc
              obtain ⟨v', e1, e2, e3⟩ := d6 g L h1
              obtain ⟨e4, e5, e6⟩ := d5 g v' e1
              have e7 := e5.1
              have e8 := e2.1
              have k1 := (hS.1 c).trans c1
              have k2 := (hS.2.2.1 c 5).trans c4
              have k5 := (hS.2.2.1 c 3).trans c3
              have k3 := (hS.1 (c + 75)).trans htk.1
              have htk1 := hS.pa htk
              refine G_w (pfb_ok X) LK_42 (fun i => i == 6 || i == 28) 24 _ _ _ _ ?_
              simp only [f_0, f_s, f_iconst, f_bipush, f_sipush, f_ldc, f_ldc_w, f_ldc2_w, f_ldI, f_ldL, f_ldA, f_iload, f_iload_n, f_lload, f_lload_n, f_aload, f_aload_n, f_istore, f_istore_n, f_lstore, f_lstore_n, f_astore, f_astore_n, f_iinc, f_icI, f_iadd, f_isub, f_imul, f_idiv, f_irem, f_iand, f_ior, f_ixor, f_ishl, f_ishr, f_iushr, f_i2l, f_i2b, f_i2s, f_ladd, f_lmul, f_lcmp, f_dupI, f_dupR, f_dup2, f_pop, f_goto, f_if, f_icmp, f_tab, f_ts0, f_ts1, f_getI, f_getZ, f_getR, f_putI, f_putR, f_gets, f_iald, f_bald, f_aald, f_iast, f_bast, f_aast, f_alen, f_new, f_newa, f_anew, f_virt, f_stat0, f_stat1, f_spec0, f_spec1, f_spec9, f_copy, f_max, f_min, f_cV1, f_cV0, f_cS1, f_cS0, f_iret, f_lret, f_vret, f_kG, pf0, cIg, inR, lget, lset, lset2, clr, entL, cnd, psh, catS, tsw, List.take_succ_cons, List.take_zero, List.drop_succ_cons, List.drop_zero, List.reverse_cons, List.reverse_nil, List.nil_append, List.cons_append, List.length_cons, List.length_nil, List.replicate_succ, List.replicate_zero, Nat.reduceAdd, Nat.reduceSub, Nat.reduceLeDiff, Nat.reduceLT, Nat.reduceEqDiff, Nat.reduceMul, Nat.zero_add, Nat.add_zero, Nat.le_refl, Nat.zero_le, Int.reduceEq, Int.reduceToNat, Int.toNat_natCast, Int.reduceNeg, Int.reduceAdd, Int.reduceSub, Int.reduceMul, Int.reduceLT, Int.reduceLE, Int.reduceDiv, Int.reduceMod, Bool.false_eq_true, ↓reduceIte, true_and, and_true, implies_true, forall_const, true_or, or_true, or_false, false_or, not_true_eq_false, not_false_eq_true, false_implies, Prod.mk.injEq, Fin.val_zero, Fin.val_one, Fin.isValue, Fin.reduceFinMk, Fin.val_two, mR_uI, mK_uI, mN_uI, mI_uR, mK_uR, mN_uR, mR_uC, mK_uC, mN_uC, Option.some.injEq, Sum.inl.injEq, Sum.inr.injEq, decide_true, decide_false, Bool.or_false, Bool.false_or, Bool.or_true, Bool.true_or, Nat.reduceBEq, beq_self_eq_true, show tb 42 = tb_42 from rfl, tb_42, tb_42_0, tb_42_1, tb_42_2, pfb, pfb_b, pfb_c, pfb_v, pfa_b, pfa_c, pfa_v, d1, d2, e4, e7, e8, k1, k2, k3]
              refine ⟨by omega, fun _ => ?_, fun h => by omega⟩
              refine Ev_mono (e_makeMonic X M1 (c + 75) A htk1 hLA okA) (fun r M2 hr _ _ => ?_)
              obtain ⟨rfl, w1, w2⟩ := hr
              have hp2 := PB_same hp w2 (by omega) (fun q hq => by have := hrq q hq; omega)
              have k1' := (w2.1 c).trans k1
              have k2' := (w2.2.2.1 c 5).trans k2
              have k5' := (w2.2.2.1 c 3).trans k5
              have k6' := hp2.1.1
              simp only [f_kG, psh, Nat.reduceAdd]
              refine G_w (pfb_ok X) LK_42 (fun i => i == 6 || i == 28) 24 _ _ _ _ ?_
              simp only [f_0, f_s, f_iconst, f_bipush, f_sipush, f_ldc, f_ldc_w, f_ldc2_w, f_ldI, f_ldL, f_ldA, f_iload, f_iload_n, f_lload, f_lload_n, f_aload, f_aload_n, f_istore, f_istore_n, f_lstore, f_lstore_n, f_astore, f_astore_n, f_iinc, f_icI, f_iadd, f_isub, f_imul, f_idiv, f_irem, f_iand, f_ior, f_ixor, f_ishl, f_ishr, f_iushr, f_i2l, f_i2b, f_i2s, f_ladd, f_lmul, f_lcmp, f_dupI, f_dupR, f_dup2, f_pop, f_goto, f_if, f_icmp, f_tab, f_ts0, f_ts1, f_getI, f_getZ, f_getR, f_putI, f_putR, f_gets, f_iald, f_bald, f_aald, f_iast, f_bast, f_aast, f_alen, f_new, f_newa, f_anew, f_virt, f_stat0, f_stat1, f_spec0, f_spec1, f_spec9, f_copy, f_max, f_min, f_cV1, f_cV0, f_cS1, f_cS0, f_iret, f_lret, f_vret, f_kG, pf0, cIg, inR, lget, lset, lset2, clr, entL, cnd, psh, catS, tsw, List.take_succ_cons, List.take_zero, List.drop_succ_cons, List.drop_zero, List.reverse_cons, List.reverse_nil, List.nil_append, List.cons_append, List.length_cons, List.length_nil, List.replicate_succ, List.replicate_zero, Nat.reduceAdd, Nat.reduceSub, Nat.reduceLeDiff, Nat.reduceLT, Nat.reduceEqDiff, Nat.reduceMul, Nat.zero_add, Nat.add_zero, Nat.le_refl, Nat.zero_le, Int.reduceEq, Int.reduceToNat, Int.toNat_natCast, Int.reduceNeg, Int.reduceAdd, Int.reduceSub, Int.reduceMul, Int.reduceLT, Int.reduceLE, Int.reduceDiv, Int.reduceMod, Bool.false_eq_true, ↓reduceIte, true_and, and_true, implies_true, forall_const, true_or, or_true, or_false, false_or, not_true_eq_false, not_false_eq_true, false_implies, Prod.mk.injEq, Fin.val_zero, Fin.val_one, Fin.isValue, Fin.reduceFinMk, Fin.val_two, mR_uI, mK_uI, mN_uI, mI_uR, mK_uR, mN_uR, mR_uC, mK_uC, mN_uC, Option.some.injEq, Sum.inl.injEq, Sum.inr.injEq, decide_true, decide_false, Bool.or_false, Bool.false_or, Bool.or_true, Bool.true_or, Nat.reduceBEq, beq_self_eq_true, show tb 42 = tb_42 from rfl, tb_42, tb_42_0, tb_42_1, tb_42_2, pfb, pfb_b, pfb_c, pfb_v, pfa_b, pfa_c, pfa_v, k1', k2', k5', k6']
              refine Ev_mono (e_rappend X M2 59 100 pl.length (c + 75) qs (mon A) hp2.1 hp2.2.1 ⟨hp2.2.2.1, by omega⟩ (w2.pa htk1) w1 (fun h => by have := hrq _ h; omega) (fun u hu => by have := hrq _ (List.mem_of_getElem? hu); omega)) (fun r M3 hr _ _ => ?_)
              rcases hr with ⟨n1, -, -⟩ | ⟨u, u1, rfl, u2, u3, u4, u5, u6⟩
              · omega
              · have hru := hrq u (List.mem_of_getElem? u1)
                have hp3 := PB_app hp2 u1 u2 u3 u6 (fun q hq => by have := hrq q hq; omega)
                simp only [f_kG, psh, Nat.reduceAdd]
                refine G_w (pfb_ok X) LK_42 (fun i => i == 6 || i == 28) 24 _ _ _ _ ?_
                simp only [f_0, f_s, f_iconst, f_bipush, f_sipush, f_ldc, f_ldc_w, f_ldc2_w, f_ldI, f_ldL, f_ldA, f_iload, f_iload_n, f_lload, f_lload_n, f_aload, f_aload_n, f_istore, f_istore_n, f_lstore, f_lstore_n, f_astore, f_astore_n, f_iinc, f_icI, f_iadd, f_isub, f_imul, f_idiv, f_irem, f_iand, f_ior, f_ixor, f_ishl, f_ishr, f_iushr, f_i2l, f_i2b, f_i2s, f_ladd, f_lmul, f_lcmp, f_dupI, f_dupR, f_dup2, f_pop, f_goto, f_if, f_icmp, f_tab, f_ts0, f_ts1, f_getI, f_getZ, f_getR, f_putI, f_putR, f_gets, f_iald, f_bald, f_aald, f_iast, f_bast, f_aast, f_alen, f_new, f_newa, f_anew, f_virt, f_stat0, f_stat1, f_spec0, f_spec1, f_spec9, f_copy, f_max, f_min, f_cV1, f_cV0, f_cS1, f_cS0, f_iret, f_lret, f_vret, f_kG, pf0, cIg, inR, lget, lset, lset2, clr, entL, cnd, psh, catS, tsw, List.take_succ_cons, List.take_zero, List.drop_succ_cons, List.drop_zero, List.reverse_cons, List.reverse_nil, List.nil_append, List.cons_append, List.length_cons, List.length_nil, List.replicate_succ, List.replicate_zero, Nat.reduceAdd, Nat.reduceSub, Nat.reduceLeDiff, Nat.reduceLT, Nat.reduceEqDiff, Nat.reduceMul, Nat.zero_add, Nat.add_zero, Nat.le_refl, Nat.zero_le, Int.reduceEq, Int.reduceToNat, Int.toNat_natCast, Int.reduceNeg, Int.reduceAdd, Int.reduceSub, Int.reduceMul, Int.reduceLT, Int.reduceLE, Int.reduceDiv, Int.reduceMod, Bool.false_eq_true, ↓reduceIte, true_and, and_true, implies_true, forall_const, true_or, or_true, or_false, false_or, not_true_eq_false, not_false_eq_true, false_implies, Prod.mk.injEq, Fin.val_zero, Fin.val_one, Fin.isValue, Fin.reduceFinMk, Fin.val_two, mR_uI, mK_uI, mN_uI, mI_uR, mK_uR, mN_uR, mR_uC, mK_uC, mN_uC, Option.some.injEq, Sum.inl.injEq, Sum.inr.injEq, decide_true, decide_false, Bool.or_false, Bool.false_or, Bool.or_true, Bool.true_or, Nat.reduceBEq, beq_self_eq_true, show tb 42 = tb_42 from rfl, tb_42, tb_42_0, tb_42_1, tb_42_2, pfb, pfb_b, pfb_c, pfb_v, pfa_b, pfa_c, pfa_v]
                refine ⟨by omega, ?_⟩
                rw [hA2] at hp3
                refine ih (g + 1) _ M3 _ h2 (by omega) (by rw [List.length_append, List.length_singleton]; omega) hp3 ((hS.tr (w2.w (fun a h => by unfold CR; omega))).tr (u6.w (fun a h => by unfold T3 at h; unfold CR; omega))) ?_
                rw [u6.2.2.2 _ _ (by unfold T3; omega), w2.2.2.2 _ _ (by omega)]
                exact hm
            | cons t R ihr =>
              intro A i M1 hdi hi hA okA hAR hLA hp hS hm
              obtain ⟨i1, i2, i3⟩ := drop_cons hdi
              obtain ⟨d1, d2, d3, d4, d5, d6⟩ := VA_same hv hS hcc
              obtain ⟨v', e1, e2, e3⟩ := d6 g L h1
              obtain ⟨e4, e5, e6⟩ := d5 g v' e1
              have okt := e3 t (List.mem_of_getElem? i1)
              obtain ⟨y1, y2⟩ := e2.2.2 i t i1
              obtain ⟨s1, s2, s3, s4, s5, s6, s7⟩ := e5
              have e8 := e2.1
              have k1 := (hS.1 c).trans c1
              have k2 := (hS.2.2.1 c 5).trans c4
              have k3 := (hS.1 (c + 75)).trans htk.1
              have k4 : mI M1 c 4 = o := (hS.2.2.2 c 4 (by unfold CR; omega)).trans ho
              have htk1 := hS.pa htk
              refine G_w (pfb_ok X) LK_42 (fun i => i == 6 || i == 28) 28 _ _ _ _ ?_
              simp only [f_0, f_s, f_iconst, f_bipush, f_sipush, f_ldc, f_ldc_w, f_ldc2_w, f_ldI, f_ldL, f_ldA, f_iload, f_iload_n, f_lload, f_lload_n, f_aload, f_aload_n, f_istore, f_istore_n, f_lstore, f_lstore_n, f_astore, f_astore_n, f_iinc, f_icI, f_iadd, f_isub, f_imul, f_idiv, f_irem, f_iand, f_ior, f_ixor, f_ishl, f_ishr, f_iushr, f_i2l, f_i2b, f_i2s, f_ladd, f_lmul, f_lcmp, f_dupI, f_dupR, f_dup2, f_pop, f_goto, f_if, f_icmp, f_tab, f_ts0, f_ts1, f_getI, f_getZ, f_getR, f_putI, f_putR, f_gets, f_iald, f_bald, f_aald, f_iast, f_bast, f_aast, f_alen, f_new, f_newa, f_anew, f_virt, f_stat0, f_stat1, f_spec0, f_spec1, f_spec9, f_copy, f_max, f_min, f_cV1, f_cV0, f_cS1, f_cS0, f_iret, f_lret, f_vret, f_kG, pf0, cIg, inR, lget, lset, lset2, clr, entL, cnd, psh, catS, tsw, List.take_succ_cons, List.take_zero, List.drop_succ_cons, List.drop_zero, List.reverse_cons, List.reverse_nil, List.nil_append, List.cons_append, List.length_cons, List.length_nil, List.replicate_succ, List.replicate_zero, Nat.reduceAdd, Nat.reduceSub, Nat.reduceLeDiff, Nat.reduceLT, Nat.reduceEqDiff, Nat.reduceMul, Nat.zero_add, Nat.add_zero, Nat.le_refl, Nat.zero_le, Int.reduceEq, Int.reduceToNat, Int.toNat_natCast, Int.reduceNeg, Int.reduceAdd, Int.reduceSub, Int.reduceMul, Int.reduceLT, Int.reduceLE, Int.reduceDiv, Int.reduceMod, Bool.false_eq_true, ↓reduceIte, true_and, and_true, implies_true, forall_const, true_or, or_true, or_false, false_or, not_true_eq_false, not_false_eq_true, false_implies, Prod.mk.injEq, Fin.val_zero, Fin.val_one, Fin.isValue, Fin.reduceFinMk, Fin.val_two, mR_uI, mK_uI, mN_uI, mI_uR, mK_uR, mN_uR, mR_uC, mK_uC, mN_uC, Option.some.injEq, Sum.inl.injEq, Sum.inr.injEq, decide_true, decide_false, Bool.or_false, Bool.false_or, Bool.or_true, Bool.true_or, Nat.reduceBEq, beq_self_eq_true, show tb 42 = tb_42 from rfl, tb_42, tb_42_0, tb_42_1, tb_42_2, pfb, pfb_b, pfb_c, pfb_v, pfa_b, pfa_c, pfa_v, d1, d2, e4, s1, s2, s3, s4, s5, s6, s7, e8, y1, y2, k1, k2, k3, k4]
              refine ⟨by omega, fun h => by omega, fun _ => ⟨by omega, by omega, by omega, by omega, ?_⟩⟩
              refine Ev_mono (e_add X M1 (c + 75) t.1 t.2 o A htk1 hLA okA (by omega) okt.1 okt.2) (fun r M2 hr _ _ => ?_)
              obtain ⟨rfl, w1, w2⟩ := hr
              simp only [f_kG, psh, Nat.reduceAdd]
              refine G_w (pfb_ok X) LK_42 (fun i => i == 6 || i == 28) 24 _ _ _ _ ?_
              simp only [f_0, f_s, f_iconst, f_bipush, f_sipush, f_ldc, f_ldc_w, f_ldc2_w, f_ldI, f_ldL, f_ldA, f_iload, f_iload_n, f_lload, f_lload_n, f_aload, f_aload_n, f_istore, f_istore_n, f_lstore, f_lstore_n, f_astore, f_astore_n, f_iinc, f_icI, f_iadd, f_isub, f_imul, f_idiv, f_irem, f_iand, f_ior, f_ixor, f_ishl, f_ishr, f_iushr, f_i2l, f_i2b, f_i2s, f_ladd, f_lmul, f_lcmp, f_dupI, f_dupR, f_dup2, f_pop, f_goto, f_if, f_icmp, f_tab, f_ts0, f_ts1, f_getI, f_getZ, f_getR, f_putI, f_putR, f_gets, f_iald, f_bald, f_aald, f_iast, f_bast, f_aast, f_alen, f_new, f_newa, f_anew, f_virt, f_stat0, f_stat1, f_spec0, f_spec1, f_spec9, f_copy, f_max, f_min, f_cV1, f_cV0, f_cS1, f_cS0, f_iret, f_lret, f_vret, f_kG, pf0, cIg, inR, lget, lset, lset2, clr, entL, cnd, psh, catS, tsw, List.take_succ_cons, List.take_zero, List.drop_succ_cons, List.drop_zero, List.reverse_cons, List.reverse_nil, List.nil_append, List.cons_append, List.length_cons, List.length_nil, List.replicate_succ, List.replicate_zero, Nat.reduceAdd, Nat.reduceSub, Nat.reduceLeDiff, Nat.reduceLT, Nat.reduceEqDiff, Nat.reduceMul, Nat.zero_add, Nat.add_zero, Nat.le_refl, Nat.zero_le, Int.reduceEq, Int.reduceToNat, Int.toNat_natCast, Int.reduceNeg, Int.reduceAdd, Int.reduceSub, Int.reduceMul, Int.reduceLT, Int.reduceLE, Int.reduceDiv, Int.reduceMod, Bool.false_eq_true, ↓reduceIte, true_and, and_true, implies_true, forall_const, true_or, or_true, or_false, false_or, not_true_eq_false, not_false_eq_true, false_implies, Prod.mk.injEq, Fin.val_zero, Fin.val_one, Fin.isValue, Fin.reduceFinMk, Fin.val_two, mR_uI, mK_uI, mN_uI, mI_uR, mK_uR, mN_uR, mR_uC, mK_uC, mN_uC, Option.some.injEq, Sum.inl.injEq, Sum.inr.injEq, decide_true, decide_false, Bool.or_false, Bool.false_or, Bool.or_true, Bool.true_or, Nat.reduceBEq, beq_self_eq_true, show tb 42 = tb_42 from rfl, tb_42, tb_42_0, tb_42_1, tb_42_2, pfb, pfb_b, pfb_c, pfb_v, pfa_b, pfa_c, pfa_v]
              refine ⟨by omega, ?_⟩
              have hln := addT_len o t.1 t.2 A
              exact ihr (addT o t.1 t.2 A) (i + 1) M2 i2 (by omega) (by omega) (addT_ok okA okt.1 okt.2) hAR w1 (PB_same hp w2 (by unfold T3; omega) (fun q hq => by have := hrq q hq; unfold T3; omega)) (hS.tr (w2.w (fun a h => by unfold T3 at h; unfold CR; omega))) ((w2.2.2.2 _ _ (by unfold T3; omega)).trans hm)
          refine G_w (pfb_ok X) LK_42 (fun i => i == 6 || i == 28) 24 _ _ _ _ ?_
          simp only [f_0, f_s, f_iconst, f_bipush, f_sipush, f_ldc, f_ldc_w, f_ldc2_w, f_ldI, f_ldL, f_ldA, f_iload, f_iload_n, f_lload, f_lload_n, f_aload, f_aload_n, f_istore, f_istore_n, f_lstore, f_lstore_n, f_astore, f_astore_n, f_iinc, f_icI, f_iadd, f_isub, f_imul, f_idiv, f_irem, f_iand, f_ior, f_ixor, f_ishl, f_ishr, f_iushr, f_i2l, f_i2b, f_i2s, f_ladd, f_lmul, f_lcmp, f_dupI, f_dupR, f_dup2, f_pop, f_goto, f_if, f_icmp, f_tab, f_ts0, f_ts1, f_getI, f_getZ, f_getR, f_putI, f_putR, f_gets, f_iald, f_bald, f_aald, f_iast, f_bast, f_aast, f_alen, f_new, f_newa, f_anew, f_virt, f_stat0, f_stat1, f_spec0, f_spec1, f_spec9, f_copy, f_max, f_min, f_cV1, f_cV0, f_cS1, f_cS0, f_iret, f_lret, f_vret, f_kG, pf0, cIg, inR, lget, lset, lset2, clr, entL, cnd, psh, catS, tsw, List.take_succ_cons, List.take_zero, List.drop_succ_cons, List.drop_zero, List.reverse_cons, List.reverse_nil, List.nil_append, List.cons_append, List.length_cons, List.length_nil, List.replicate_succ, List.replicate_zero, Nat.reduceAdd, Nat.reduceSub, Nat.reduceLeDiff, Nat.reduceLT, Nat.reduceEqDiff, Nat.reduceMul, Nat.zero_add, Nat.add_zero, Nat.le_refl, Nat.zero_le, Int.reduceEq, Int.reduceToNat, Int.toNat_natCast, Int.reduceNeg, Int.reduceAdd, Int.reduceSub, Int.reduceMul, Int.reduceLT, Int.reduceLE, Int.reduceDiv, Int.reduceMod, Bool.false_eq_true, ↓reduceIte, true_and, and_true, implies_true, forall_const, true_or, or_true, or_false, false_or, not_true_eq_false, not_false_eq_true, false_implies, Prod.mk.injEq, Fin.val_zero, Fin.val_one, Fin.isValue, Fin.reduceFinMk, Fin.val_two, mR_uI, mK_uI, mN_uI, mI_uR, mK_uR, mN_uR, mR_uC, mK_uC, mN_uC, Option.some.injEq, Sum.inl.injEq, Sum.inr.injEq, decide_true, decide_false, Bool.or_false, Bool.false_or, Bool.or_true, Bool.true_or, Nat.reduceBEq, beq_self_eq_true, show tb 42 = tb_42 from rfl, tb_42, tb_42_0, tb_42_1, tb_42_2, pfb, pfb_b, pfb_c, pfb_v, pfa_b, pfa_c, pfa_v, a1, a2, hlo, b4, b7, b8, k1, k2, k3]
          refine ⟨fun h => by omega, fun _ => ⟨fun h => by omega, fun _ => ⟨by omega, fun _ => ?_, fun h => by omega⟩⟩⟩
          exact inner L [] 0 _ rfl (by omega) (by simp) (fun t ht => by cases ht) rfl ⟨mI_uI_eq, by simp, fun j t ht => by simp at ht⟩ (PB_same hp ((Same.rf M1 (fun a => a = c + 75)).uI rfl 2 _) (by omega) (fun q hq => by have := hrq q hq; omega)) (hS.uI (by unfold CR; omega) 2 _) ((mI_uI_ne (by omega)).trans hm)
  refine Ev_of mcd_42 mok_42 (by decide) rfl (Nat.le_of_ble_eq_true rfl) ?_
  rw [show yl 42 = 5 from rfl]
  refine G_w (pfb_ok X) LK_42 (fun i => i == 6) 10 _ _ _ _ ?_
  simp only [f_0, f_s, f_iconst, f_bipush, f_sipush, f_ldc, f_ldc_w, f_ldc2_w, f_ldI, f_ldL, f_ldA, f_iload, f_iload_n, f_lload, f_lload_n, f_aload, f_aload_n, f_istore, f_istore_n, f_lstore, f_lstore_n, f_astore, f_astore_n, f_iinc, f_icI, f_iadd, f_isub, f_imul, f_idiv, f_irem, f_iand, f_ior, f_ixor, f_ishl, f_ishr, f_iushr, f_i2l, f_i2b, f_i2s, f_ladd, f_lmul, f_lcmp, f_dupI, f_dupR, f_dup2, f_pop, f_goto, f_if, f_icmp, f_tab, f_ts0, f_ts1, f_getI, f_getZ, f_getR, f_putI, f_putR, f_gets, f_iald, f_bald, f_aald, f_iast, f_bast, f_aast, f_alen, f_new, f_newa, f_anew, f_virt, f_stat0, f_stat1, f_spec0, f_spec1, f_spec9, f_copy, f_max, f_min, f_cV1, f_cV0, f_cS1, f_cS0, f_iret, f_lret, f_vret, f_kG, pf0, cIg, inR, lget, lset, lset2, clr, entL, cnd, psh, catS, tsw, List.take_succ_cons, List.take_zero, List.drop_succ_cons, List.drop_zero, List.reverse_cons, List.reverse_nil, List.nil_append, List.cons_append, List.length_cons, List.length_nil, List.replicate_succ, List.replicate_zero, Nat.reduceAdd, Nat.reduceSub, Nat.reduceLeDiff, Nat.reduceLT, Nat.reduceEqDiff, Nat.reduceMul, Nat.zero_add, Nat.add_zero, Nat.le_refl, Nat.zero_le, Int.reduceEq, Int.reduceToNat, Int.toNat_natCast, Int.reduceNeg, Int.reduceAdd, Int.reduceSub, Int.reduceMul, Int.reduceLT, Int.reduceLE, Int.reduceDiv, Int.reduceMod, Bool.false_eq_true, ↓reduceIte, true_and, and_true, implies_true, forall_const, true_or, or_true, or_false, false_or, not_true_eq_false, not_false_eq_true, false_implies, Prod.mk.injEq, Fin.val_zero, Fin.val_one, Fin.isValue, Fin.reduceFinMk, Fin.val_two, mR_uI, mK_uI, mN_uI, mI_uR, mK_uR, mN_uR, mR_uC, mK_uC, mN_uC, Option.some.injEq, Sum.inl.injEq, Sum.inr.injEq, decide_true, decide_false, Bool.or_false, Bool.false_or, Bool.or_true, Bool.true_or, Nat.reduceBEq, beq_self_eq_true, show tb 42 = tb_42 from rfl, tb_42, tb_42_0, tb_42_1, tb_42_2, pfb, pfb_b, pfb_c, pfb_v, pfa_b, pfa_c, pfa_v, c1, c3, hr.1]
  exact loop Ls 0 [] _ none rfl (by omega) (by simp) ⟨hr, mI_uI_eq, by simp, fun j L hL => by simp at hL⟩ ((Same.rf M _).uI (by unfold CR; omega) 1 _) (mI_uI_ne (by omega))
