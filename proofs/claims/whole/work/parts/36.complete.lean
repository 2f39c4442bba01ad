/-! complete -/
/-- one step -/
def cmS (o : Int) (bs : List Mb) (pl : List Po) : Int × List Mb × List Po :=
  if (nfF o bs 32768 0 (pl.getD (lowI o pl) [])).1 = true then
    (if (nfF o bs 32768 0 (pl.getD (lowI o pl) [])).2 = [] then (0, bs, pl.eraseIdx (lowI o pl))
    else match admF (mon (nfF o bs 32768 0 (pl.getD (lowI o pl) [])).2) bs (pl.eraseIdx (lowI o pl)) with
      | none => (3, bs, pl)
      | some (bs', pl') => prF bs' [] pl')
  else (2, bs, pl)
/-- all steps: why, how many, the basis -/
def cmL (o : Int) : Nat → Nat → List Mb → List Po → Int × Nat × List Mb
  | 0, s, bs, pl => if pl = [] then (0, s, bs) else (1, s, [])
  | k + 1, s, bs, pl => if pl = [] then (0, s, bs) else if (cmS o bs pl).1 = 0 then cmL o k (s + 1) (cmS o bs pl).2.1 (cmS o bs pl).2.2 else ((cmS o bs pl).1, s + 1, [])
def CRc (c a : Nat) : Prop := a = c ∨ CR c a
/-- how complete ends -/
def CD (M : Mem) (c : Nat) (o : Int) (res : Int × Nat × List Mb) (r : Option AV) (M' : Mem) : Prop := r = none ∧ Smr M M' (CRc c) (CQ c) ∧ mI M' c 1 = res.1 ∧ mI M' c 2 = res.2.1 ∧ okB res.2.2 ∧ ∃ ps' qs', CW M' c o ps' qs' ∧ CB M' (c + 1) 24 ps' res.2.2 ∧ PB M' 59 100 qs' []
theorem CW_uc {M : Mem} {c k : Nat} {o v : Int} {ps qs : List Nat} (h : CW M c o ps qs) (hk : k ≠ 4) : CW (uI M c k v) c o ps qs := by
  obtain ⟨h1, hcc, h3, h4, h5, h6, h7, h8⟩ := h
  have hb := big_gt
  have hS : Smr M (uI M c k v) (fun a => a = c) (fun _ => False) := (Smr.rf M (fun a => a = c) (fun _ => False)).uI rfl k v
  exact ⟨hS.ext h1 (fun a ha => by omega), hcc, h3, (mI_uI_nk (by omega)).trans h4, h5, h6, h7, h8⟩
theorem c_fin1 {M M1 : Mem} {c s : Nat} {o : Int} {ps qs : List Nat} {bs : List Mb} (hW : CW M1 c o ps qs) (hS : Smr M M1 (CRc c) (CQ c)) (h1 : mI M1 c 1 = 0) (h2 : mI M1 c 2 = s) (hrq : RA M1 59 100 qs) (hb : CB M1 (c + 1) 24 ps bs) (ho : okB bs) : CD M c o (0, s, bs) none (uI M1 59 1 0) := by
  have hW0 := hW
  obtain ⟨hE, hcc, hca, ho1, ho2, htk, hrp, hrq2⟩ := hW
  refine ⟨rfl, hS.uI (by unfold CRc CR; omega) 1 _, (mI_uI_ne (by omega)).trans h1, (mI_uI_ne (by omega)).trans h2, ho, ps, qs, hW0.smr ((Smr.rf M1 _ _).uI (by unfold CR; omega) 1 0) hrp hrq2, CB_same hb ((Same.rf M1 (fun a => a = 59)).uI rfl 1 0) (by omega) (fun q hq => by have := hrp q hq; omega), hrq, mI_uI_eq, by simp, fun j L h => by simp at h⟩
theorem c_fin2 {M M1 : Mem} {c s : Nat} {o rs : Int} {ps qs : List Nat} (hW : CW M1 c o ps qs) (hS : Smr M M1 (CRc c) (CQ c)) (h1 : mI M1 c 1 = rs) (h2 : mI M1 c 2 = s) (hra : RA M1 (c + 1) 24 ps) (hrq : RA M1 59 100 qs) : CD M c o (rs, s, []) none (uI (uI M1 (c + 1) 1 0) 59 1 0) := by
  have hW0 := hW
  obtain ⟨hE, hcc, hca, ho1, ho2, htk, hrp, hrq2⟩ := hW
  refine ⟨rfl, (hS.uI (by unfold CRc CR; omega) 1 _).uI (by unfold CRc CR; omega) 1 _, (mI_uI_ne (by omega)).trans ((mI_uI_ne (by omega)).trans h1), (mI_uI_ne (by omega)).trans ((mI_uI_ne (by omega)).trans h2), fun b hb => by (cases hb), ps, qs, hW0.smr (((Smr.rf M1 _ _).uI (by unfold CR; omega) 1 0).uI (by unfold CR; omega) 1 0) hrp hrq2, ⟨hra, (mI_uI_ne (by omega)).trans mI_uI_eq, by simp, fun j L h => by simp at h⟩, hrq, mI_uI_eq, by simp, fun j L h => by simp at h⟩
set_option maxRecDepth 100000 in
set_option maxHeartbeats 4000000 in
theorem c_end (X : CX) (M : Mem) (c : Nat) (o : Int) (ps qs : List Nat) (bs : List Mb) (n s : Nat) (rs : Int) (M1 : Mem) (ls : List (Option AV)) (hW : CW M1 c o ps qs) (hS : Smr M M1 (CRc c) (CQ c)) (h1 : mI M1 c 1 = rs) (h2 : mI M1 c 2 = s) (hra : RA M1 (c + 1) 24 ps) (hrq : RA M1 59 100 qs) (hn : mI M1 59 1 = n) (hb : rs = 0 → CB M1 (c + 1) 24 ps bs) (ho : okB bs) (v1 v2 v3 : AV) (hv1 : ∃ x, v1 = aR x) (hv2 : ∃ x, v2 = aI x) (hv3 : ∃ x, v3 = aI x) : G X y_Completion_complete (mZ M, mS M, 0, 0) 59 [some (aR (some c)), some v1, some v2, some v3] [] M1 (CD M c o (if rs = 0 then (if n = 0 then (0, s, bs) else (1, s, [])) else (rs, s, []))) := by
  obtain ⟨x1, rfl⟩ := hv1
  obtain ⟨x2, rfl⟩ := hv2
  obtain ⟨x3, rfl⟩ := hv3
  have hW0 := hW
  obtain ⟨hE, hcc, hca, ho1, ho2, htk, hrp, hrq2⟩ := hW
  obtain ⟨c1, c2, c3, -⟩ := hca
  have k1 := hra.1
  have k2 := hrq.1
  by_cases hr0 : rs = 0
  · rw [if_pos hr0]
    subst hr0
    by_cases hn0 : n = 0
    · subst hn0
      rw [if_pos rfl]
      refine G_w (pfb_ok X) LK_41 (fun i => i == 17) 40 _ _ _ _ ?_
      simp only [f_0, f_s, f_iconst, f_bipush, f_sipush, f_ldc, f_ldc_w, f_ldc2_w, f_ldI, f_ldL, f_ldA, f_iload, f_iload_n, f_lload, f_lload_n, f_aload, f_aload_n, f_istore, f_istore_n, f_lstore, f_lstore_n, f_astore, f_astore_n, f_iinc, f_icI, f_iadd, f_isub, f_imul, f_idiv, f_irem, f_iand, f_ior, f_ixor, f_ishl, f_ishr, f_iushr, f_i2l, f_i2b, f_i2s, f_ladd, f_lmul, f_lcmp, f_dupI, f_dupR, f_dup2, f_pop, f_goto, f_if, f_icmp, f_tab, f_ts0, f_ts1, f_getI, f_getZ, f_getR, f_putI, f_putR, f_gets, f_iald, f_bald, f_aald, f_iast, f_bast, f_aast, f_alen, f_new, f_newa, f_anew, f_virt, f_stat0, f_stat1, f_spec0, f_spec1, f_spec9, f_copy, f_max, f_min, f_cV1, f_cV0, f_cS1, f_cS0, f_iret, f_lret, f_vret, f_kG, pf0, cIg, inR, lget, lset, lset2, clr, entL, cnd, psh, catS, tsw, List.take_succ_cons, List.take_zero, List.drop_succ_cons, List.drop_zero, List.reverse_cons, List.reverse_nil, List.nil_append, List.cons_append, List.length_cons, List.length_nil, List.replicate_succ, List.replicate_zero, Nat.reduceAdd, Nat.reduceSub, Nat.reduceLeDiff, Nat.reduceLT, Nat.reduceEqDiff, Nat.reduceMul, Nat.zero_add, Nat.add_zero, Nat.le_refl, Nat.zero_le, Int.reduceEq, Int.reduceToNat, Int.toNat_natCast, Int.reduceNeg, Int.reduceAdd, Int.reduceSub, Int.reduceMul, Int.reduceLT, Int.reduceLE, Int.reduceDiv, Int.reduceMod, Bool.false_eq_true, ↓reduceIte, true_and, and_true, implies_true, forall_const, true_or, or_true, or_false, false_or, not_true_eq_false, not_false_eq_true, false_implies, Prod.mk.injEq, Fin.val_zero, Fin.val_one, Fin.isValue, Fin.reduceFinMk, Fin.val_two, mR_uI, mK_uI, mN_uI, mI_uR, mK_uR, mN_uR, mR_uC, mK_uC, mN_uC, Option.some.injEq, Sum.inl.injEq, Sum.inr.injEq, decide_true, decide_false, Bool.or_false, Bool.false_or, Bool.or_true, Bool.true_or, Nat.reduceBEq, beq_self_eq_true, show tb 41 = tb_41 from rfl, tb_41, tb_41_0, tb_41_1, tb_41_2, pfb, pfb_b, pfb_c, pfb_v, pfa_b, pfa_c, pfa_v, c1, c2, c3, k1, k2, h1, hn]
      exact ⟨fun _ => c_fin1 hW0 hS h1 h2 hrq (hb rfl) ho, fun h => absurd (Int.le_refl _) h⟩
    · rw [if_neg hn0]
      refine G_w (pfb_ok X) LK_41 (fun i => i == 17) 40 _ _ _ _ ?_
      simp only [f_0, f_s, f_iconst, f_bipush, f_sipush, f_ldc, f_ldc_w, f_ldc2_w, f_ldI, f_ldL, f_ldA, f_iload, f_iload_n, f_lload, f_lload_n, f_aload, f_aload_n, f_istore, f_istore_n, f_lstore, f_lstore_n, f_astore, f_astore_n, f_iinc, f_icI, f_iadd, f_isub, f_imul, f_idiv, f_irem, f_iand, f_ior, f_ixor, f_ishl, f_ishr, f_iushr, f_i2l, f_i2b, f_i2s, f_ladd, f_lmul, f_lcmp, f_dupI, f_dupR, f_dup2, f_pop, f_goto, f_if, f_icmp, f_tab, f_ts0, f_ts1, f_getI, f_getZ, f_getR, f_putI, f_putR, f_gets, f_iald, f_bald, f_aald, f_iast, f_bast, f_aast, f_alen, f_new, f_newa, f_anew, f_virt, f_stat0, f_stat1, f_spec0, f_spec1, f_spec9, f_copy, f_max, f_min, f_cV1, f_cV0, f_cS1, f_cS0, f_iret, f_lret, f_vret, f_kG, pf0, cIg, inR, lget, lset, lset2, clr, entL, cnd, psh, catS, tsw, List.take_succ_cons, List.take_zero, List.drop_succ_cons, List.drop_zero, List.reverse_cons, List.reverse_nil, List.nil_append, List.cons_append, List.length_cons, List.length_nil, List.replicate_succ, List.replicate_zero, Nat.reduceAdd, Nat.reduceSub, Nat.reduceLeDiff, Nat.reduceLT, Nat.reduceEqDiff, Nat.reduceMul, Nat.zero_add, Nat.add_zero, Nat.le_refl, Nat.zero_le, Int.reduceEq, Int.reduceToNat, Int.toNat_natCast, Int.reduceNeg, Int.reduceAdd, Int.reduceSub, Int.reduceMul, Int.reduceLT, Int.reduceLE, Int.reduceDiv, Int.reduceMod, Bool.false_eq_true, ↓reduceIte, true_and, and_true, implies_true, forall_const, true_or, or_true, or_false, false_or, not_true_eq_false, not_false_eq_true, false_implies, Prod.mk.injEq, Fin.val_zero, Fin.val_one, Fin.isValue, Fin.reduceFinMk, Fin.val_two, mR_uI, mK_uI, mN_uI, mI_uR, mK_uR, mN_uR, mR_uC, mK_uC, mN_uC, Option.some.injEq, Sum.inl.injEq, Sum.inr.injEq, decide_true, decide_false, Bool.or_false, Bool.false_or, Bool.or_true, Bool.true_or, Nat.reduceBEq, beq_self_eq_true, show tb 41 = tb_41 from rfl, tb_41, tb_41_0, tb_41_1, tb_41_2, pfb, pfb_b, pfb_c, pfb_v, pfa_b, pfa_c, pfa_v, c1, c2, c3, k1, k2, h1, hn]
      refine ⟨fun h => by omega, fun _ => ⟨fun h => ?_, fun _ => c_fin2 (CW_uc hW0 (by omega)) (hS.uI (Or.inl rfl) 1 _) mI_uI_eq ((mI_uI_nk (by omega)).trans h2) hra hrq⟩⟩
      rw [mI_uI_eq] at h; omega
  · rw [if_neg hr0]
    refine G_w (pfb_ok X) LK_41 (fun i => i == 17) 40 _ _ _ _ ?_
    simp only [f_0, f_s, f_iconst, f_bipush, f_sipush, f_ldc, f_ldc_w, f_ldc2_w, f_ldI, f_ldL, f_ldA, f_iload, f_iload_n, f_lload, f_lload_n, f_aload, f_aload_n, f_istore, f_istore_n, f_lstore, f_lstore_n, f_astore, f_astore_n, f_iinc, f_icI, f_iadd, f_isub, f_imul, f_idiv, f_irem, f_iand, f_ior, f_ixor, f_ishl, f_ishr, f_iushr, f_i2l, f_i2b, f_i2s, f_ladd, f_lmul, f_lcmp, f_dupI, f_dupR, f_dup2, f_pop, f_goto, f_if, f_icmp, f_tab, f_ts0, f_ts1, f_getI, f_getZ, f_getR, f_putI, f_putR, f_gets, f_iald, f_bald, f_aald, f_iast, f_bast, f_aast, f_alen, f_new, f_newa, f_anew, f_virt, f_stat0, f_stat1, f_spec0, f_spec1, f_spec9, f_copy, f_max, f_min, f_cV1, f_cV0, f_cS1, f_cS0, f_iret, f_lret, f_vret, f_kG, pf0, cIg, inR, lget, lset, lset2, clr, entL, cnd, psh, catS, tsw, List.take_succ_cons, List.take_zero, List.drop_succ_cons, List.drop_zero, List.reverse_cons, List.reverse_nil, List.nil_append, List.cons_append, List.length_cons, List.length_nil, List.replicate_succ, List.replicate_zero, Nat.reduceAdd, Nat.reduceSub, Nat.reduceLeDiff, Nat.reduceLT, Nat.reduceEqDiff, Nat.reduceMul, Nat.zero_add, Nat.add_zero, Nat.le_refl, Nat.zero_le, Int.reduceEq, Int.reduceToNat, Int.toNat_natCast, Int.reduceNeg, Int.reduceAdd, Int.reduceSub, Int.reduceMul, Int.reduceLT, Int.reduceLE, Int.reduceDiv, Int.reduceMod, Bool.false_eq_true, ↓reduceIte, true_and, and_true, implies_true, forall_const, true_or, or_true, or_false, false_or, not_true_eq_false, not_false_eq_true, false_implies, Prod.mk.injEq, Fin.val_zero, Fin.val_one, Fin.isValue, Fin.reduceFinMk, Fin.val_two, mR_uI, mK_uI, mN_uI, mI_uR, mK_uR, mN_uR, mR_uC, mK_uC, mN_uC, Option.some.injEq, Sum.inl.injEq, Sum.inr.injEq, decide_true, decide_false, Bool.or_false, Bool.false_or, Bool.or_true, Bool.true_or, Nat.reduceBEq, beq_self_eq_true, show tb 41 = tb_41 from rfl, tb_41, tb_41_0, tb_41_1, tb_41_2, pfb, pfb_b, pfb_c, pfb_v, pfa_b, pfa_c, pfa_v, c1, c2, c3, k1, k2, h1, hn, hr0]
    exact c_fin2 hW0 hS h1 h2 hra hrq
