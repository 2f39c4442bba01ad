/-! readText -/
theorem upR_ok {s t : RS} {k : Int} (ok : okR s) (h34 : s.1 = 3 ∨ s.1 = 4) (hk : 0 ≤ k) (h : upR s k = some t) : okR t ∧ t.1 = s.1 := by
  unfold upR at h
  obtain ⟨o0, o1, o2, o3, o4⟩ := ok
  split at h
  · rename_i hle
    rw [Option.some.injEq] at h
    subst h
    exact ⟨⟨o0, o1, o2, up_pr o3 (o4 h34) hk hle, o4⟩, rfl⟩
  · cases h
theorem nxR_ok {b : Int} {s t : RS} (ok : okR s) (h : nxR b s = some t) : okR t ∧ (t.1 = 1 ↔ (b = 43 ∨ b = 45)) := by
  have ok0 := ok
  obtain ⟨o0, o1, o2, o3, o4⟩ := ok
  unfold nxR at h
  split at h
  · rename_i hb
    split at h
    · cases h
    · rw [Option.some.injEq] at h
      subst h
      exact ⟨⟨by simp, o1, o2, o3, fun h => by simp at h⟩, fun _ => hb, fun _ => rfl⟩
  · rename_i hb
    split at h
    · rename_i hf
      split at h
      · rw [Option.some.injEq] at h
        subst h
        exact ⟨⟨by simp, o1, by simp only; omega, o3, fun h => by simp at h⟩, fun h => by simp at h, fun h => by omega⟩
      · split at h
        · rename_i h3
          obtain ⟨g1, g2⟩ := upR_ok (s := (4, s.2)) ⟨by simp, o1, o2, o3, fun _ => o4 (Or.inl h3.1)⟩ (Or.inr rfl) (by omega) h
          exact ⟨g1, fun h => by rw [g2] at h; simp at h, fun h => by omega⟩
        · cases h
    · split at h
      · rename_i hl
        obtain ⟨g1, g2⟩ := upR_ok (s := (3, s.2.1, s.2.2.1, s.2.2.2.1, b - 120)) ⟨by simp, o1, o2, o3, fun _ => by simp only; omega⟩ (Or.inl rfl) (by omega) h
        exact ⟨g1, fun h => by rw [g2] at h; simp at h, fun h => by omega⟩
      · cases h
/-- the fault, and the value -/
def rdL (o : Int) : List Int → Nat → RS → Po → Int × Po
  | [], i, s, L => if s.1 = 1 then ((i : Int), []) else if s.1 = 0 then (-1, L) else (-1, addT o (sgR s) s.2.2.2.1 L)
  | b :: B, i, s, L => match nxR b s with
    | none => ((i : Int), [])
    | some t => if t.1 = 1 then rdL o B (i + 1) (1, (if b = 45 then 1 else 0), 1, 0, t.2.2.2.2) (if i = 0 then L else addT o (sgR t) t.2.2.2.1 L) else rdL o B (i + 1) t L
def rdF (o : Int) (B : List Int) : Int × Po := rdL o B 0 (0, 0, 1, 0, 0) []
/-- the letter of before is of no account -/
theorem rdL_let (o : Int) : ∀ (B : List Int) (i : Nat) (st n m p l l' : Int) (L : Po), st ≠ 3 → rdL o B i (st, n, m, p, l) L = rdL o B i (st, n, m, p, l') L
  | [], i, st, n, m, p, l, l', L, _ => rfl
  | b :: B, i, st, n, m, p, l, l', L, h3 => by
    rw [rdL, rdL]
    unfold nxR
    simp only
    by_cases h1 : b = 43 ∨ b = 45
    · simp only [if_pos h1]
      by_cases h2 : st = 1 ∨ st = 0 ∧ b = 43
      · simp only [if_pos h2]
      · simp only [if_neg h2, if_true]
        exact rdL_let o B (i + 1) 1 _ 1 0 l l' _ (by omega)
    · simp only [if_neg h1]
      by_cases h2 : 49 ≤ b ∧ b ≤ 57
      · simp only [if_pos h2]
        by_cases h4 : st = 0 ∨ st = 1
        · simp only [if_pos h4]
          rw [if_neg (by omega), if_neg (by omega)]
          exact rdL_let o B (i + 1) 2 _ _ _ l l' _ (by omega)
        · simp only [if_neg h4]
          have h5 : ¬ (st = 3 ∧ b ≠ 49) := fun h => h3 h.1
          simp only [if_neg h5]
      · simp only [if_neg h2]
theorem sgR_b {s : RS} (ok : okR s) : 1 ≤ sgR s ∧ sgR s ≤ 30 := by
  have := ok.2.2.1
  unfold sgR
  split <;> omega
abbrev TR (p a : Nat) : Nat → Prop := fun x => T3 p x ∨ x = a ∨ x = 3
/-- how readText ends -/
def RT (M : Mem) (p a : Nat) (res : Int × Po) (r : Option AV) (M' : Mem) : Prop := r = none ∧ Same M M' (TR p a) ∧ PL M' p res.2 ∧ mI M' a 2 = res.1 ∧ mI M' a 1 = mI M a 1
theorem PL_nil {M : Mem} {p : Nat} : PL (uI M p 2 0) p [] := ⟨mI_uI_eq, by simp, fun j t ht => by simp at ht⟩
set_option maxRecDepth 100000 in
set_option maxHeartbeats 4000000 in
theorem e_readText (X : CX) (M : Mem) (a p cap : Nat) (o : Int) (B : List Int) (hs : Shp M) (ha : OA M 1 cap a) (hB1 : mI M a 1 = B.length) (hB : IL M (a + 1) B) (hcap : B.length ≤ cap ∧ cap ≤ 30) (hp : PA M p) (hbig : a + 2 < 1000 ∧ p + 2 < 1000) : Ev X y_Reader_readText (0, 0) [aR (some 3), aR (some a), aR (some p), aI o] M (RT M p a (rdF o B)) := by
  obtain ⟨a1, a2, a3, a4⟩ := ha
  have hp0 := hp
  obtain ⟨p1, p2, p3, p4, p5, p6, p7⟩ := hp
  have k3 := hs.xk3
  have n1 : a ≠ p := fun e => by rw [e, p1] at a1; omega
  have n2 : a ≠ p + 1 := fun e => by rw [e, p2] at a1; omega
  have n3 : a ≠ p + 2 := fun e => by rw [e, p3] at a1; omega
  have n4 : a + 1 ≠ p := fun e => by rw [e, p1] at a3; omega
  have n5 : a ≠ 3 := fun e => by rw [e, k3] at a1; omega
  have n6 : a + 1 ≠ 3 := fun e => by rw [e, k3] at a3; omega
  have n7 : p ≠ 3 := fun e => by rw [e, k3] at p1; omega
  have n8 : p + 1 ≠ 3 := fun e => by rw [e, k3] at p2; omega
  have n9 : p + 2 ≠ 3 := fun e => by rw [e, k3] at p3; omega
  have big := big_gt
  have hbs : ∀ x, BIG ≤ x → ¬ TR p a x := fun x hx => by unfold TR T3; omega
  have S3 : ∀ {M1 M2 : Mem}, Same M M1 (TR p a) → Same M1 M2 (fun x => x = 3) → Same M M2 (TR p a) := fun h1 h2 => h1.tr (h2.w (fun x h => Or.inr (Or.inr h)))
  have Sp : ∀ {M1 M2 : Mem}, Same M M1 (TR p a) → Same M1 M2 (T3 p) → Same M M2 (TR p a) := fun h1 h2 => h1.tr (h2.w (fun x h => Or.inl h))
  have loop : ∀ (B2 : List Int) (i : Nat) (s : RS) (L : Po) (M1 : Mem), B.drop i = B2 → i ≤ B.length → Same M M1 (TR p a) → RD M1 s → okR s → PL M1 p L → okP L → L.length ≤ i - 1 → mI M1 a 1 = B.length → mI M1 a 2 = -1 → G X y_Reader_readText (mZ M, mS M, 0, 0) 14 [some (aR (some 3)), some (aR (some a)), some (aR (some p)), some (aI o), some (aI i)] [] M1 (RT M p a (rdL o B2 i s L)) := by
    intro B2
    induction B2 with
    | nil =>
      intro i s L M1 hd hi hS hR ok hL okL hl h1 h2
      have hi2 := drop_nil hd hi
      have hs1 := hS.shp hs hbs
      have q1 := (hS.1 a).trans a1
      have q2 := (hS.1 3).trans k3
      have q3 := (hS.1 p).trans p1
      have r0 := hR.1
      have r3 := hR.2.2.2.1
      rw [rdL]
      by_cases hs9 : s.1 = 1
      · rw [if_pos hs9]
        refine G_w (pfb_ok X) LK_27 (fun i => false) 40 _ _ _ _ ?_
        simp only [f_0, f_s, f_iconst, f_bipush, f_sipush, f_ldc, f_ldc_w, f_ldc2_w, f_ldI, f_ldL, f_ldA, f_iload, f_iload_n, f_lload, f_lload_n, f_aload, f_aload_n, f_istore, f_istore_n, f_lstore, f_lstore_n, f_astore, f_astore_n, f_iinc, f_icI, f_iadd, f_isub, f_imul, f_idiv, f_irem, f_iand, f_ior, f_ixor, f_ishl, f_ishr, f_iushr, f_i2l, f_i2b, f_i2s, f_ladd, f_lmul, f_lcmp, f_dupI, f_dupR, f_dup2, f_pop, f_goto, f_if, f_icmp, f_tab, f_ts0, f_ts1, f_getI, f_getZ, f_getR, f_putI, f_putR, f_gets, f_iald, f_bald, f_aald, f_iast, f_bast, f_aast, f_alen, f_new, f_newa, f_anew, f_virt, f_stat0, f_stat1, f_spec0, f_spec1, f_spec9, f_copy, f_max, f_min, f_cV1, f_cV0, f_cS1, f_cS0, f_iret, f_lret, f_vret, f_kG, pf0, cIg, inR, lget, lset, lset2, clr, entL, cnd, psh, catS, tsw, List.take_succ_cons, List.take_zero, List.drop_succ_cons, List.drop_zero, List.reverse_cons, List.reverse_nil, List.nil_append, List.cons_append, List.length_cons, List.length_nil, List.replicate_succ, List.replicate_zero, Nat.reduceAdd, Nat.reduceSub, Nat.reduceLeDiff, Nat.reduceLT, Nat.reduceEqDiff, Nat.reduceMul, Nat.zero_add, Nat.add_zero, Nat.le_refl, Nat.zero_le, Int.reduceEq, Int.reduceToNat, Int.toNat_natCast, Int.reduceNeg, Int.reduceAdd, Int.reduceSub, Int.reduceMul, Int.reduceLT, Int.reduceLE, Int.reduceDiv, Int.reduceMod, Bool.false_eq_true, ↓reduceIte, true_and, and_true, implies_true, forall_const, true_or, or_true, or_false, false_or, not_true_eq_false, not_false_eq_true, false_implies, Prod.mk.injEq, Fin.val_zero, Fin.val_one, Fin.isValue, Fin.reduceFinMk, Fin.val_two, mR_uI, mK_uI, mN_uI, mI_uR, mK_uR, mN_uR, mR_uC, mK_uC, mN_uC, Option.some.injEq, Sum.inl.injEq, Sum.inr.injEq, decide_true, decide_false, Bool.or_false, Bool.false_or, Bool.or_true, Bool.true_or, Nat.reduceBEq, beq_self_eq_true, show tb 27 = tb_27 from rfl, tb_27, tb_27_0, tb_27_1, tb_27_2, pfb, pfb_b, pfb_c, pfb_v, pfa_b, pfa_c, pfa_v, q1, q2, q3, h1, r0, hs9]
        refine ⟨fun _ => ⟨rfl, ?_, PL_nil, ?_, ?_⟩, fun h => by omega⟩
        · exact (hS.uI (Or.inr (Or.inl rfl)) _ _).uI (Or.inl (Or.inl rfl)) _ _
        · rw [mI_uI_ne n1, mI_uI_eq, hi2]
        · rw [mI_uI_ne n1, mI_uI_nk (by omega), h1, hB1]
      · rw [if_neg hs9]
        by_cases hs0 : s.1 = 0
        · rw [if_pos hs0]
          refine G_w (pfb_ok X) LK_27 (fun i => false) 40 _ _ _ _ ?_
          simp only [f_0, f_s, f_iconst, f_bipush, f_sipush, f_ldc, f_ldc_w, f_ldc2_w, f_ldI, f_ldL, f_ldA, f_iload, f_iload_n, f_lload, f_lload_n, f_aload, f_aload_n, f_istore, f_istore_n, f_lstore, f_lstore_n, f_astore, f_astore_n, f_iinc, f_icI, f_iadd, f_isub, f_imul, f_idiv, f_irem, f_iand, f_ior, f_ixor, f_ishl, f_ishr, f_iushr, f_i2l, f_i2b, f_i2s, f_ladd, f_lmul, f_lcmp, f_dupI, f_dupR, f_dup2, f_pop, f_goto, f_if, f_icmp, f_tab, f_ts0, f_ts1, f_getI, f_getZ, f_getR, f_putI, f_putR, f_gets, f_iald, f_bald, f_aald, f_iast, f_bast, f_aast, f_alen, f_new, f_newa, f_anew, f_virt, f_stat0, f_stat1, f_spec0, f_spec1, f_spec9, f_copy, f_max, f_min, f_cV1, f_cV0, f_cS1, f_cS0, f_iret, f_lret, f_vret, f_kG, pf0, cIg, inR, lget, lset, lset2, clr, entL, cnd, psh, catS, tsw, List.take_succ_cons, List.take_zero, List.drop_succ_cons, List.drop_zero, List.reverse_cons, List.reverse_nil, List.nil_append, List.cons_append, List.length_cons, List.length_nil, List.replicate_succ, List.replicate_zero, Nat.reduceAdd, Nat.reduceSub, Nat.reduceLeDiff, Nat.reduceLT, Nat.reduceEqDiff, Nat.reduceMul, Nat.zero_add, Nat.add_zero, Nat.le_refl, Nat.zero_le, Int.reduceEq, Int.reduceToNat, Int.toNat_natCast, Int.reduceNeg, Int.reduceAdd, Int.reduceSub, Int.reduceMul, Int.reduceLT, Int.reduceLE, Int.reduceDiv, Int.reduceMod, Bool.false_eq_true, ↓reduceIte, true_and, and_true, implies_true, forall_const, true_or, or_true, or_false, false_or, not_true_eq_false, not_false_eq_true, false_implies, Prod.mk.injEq, Fin.val_zero, Fin.val_one, Fin.isValue, Fin.reduceFinMk, Fin.val_two, mR_uI, mK_uI, mN_uI, mI_uR, mK_uR, mN_uR, mR_uC, mK_uC, mN_uC, Option.some.injEq, Sum.inl.injEq, Sum.inr.injEq, decide_true, decide_false, Bool.or_false, Bool.false_or, Bool.or_true, Bool.true_or, Nat.reduceBEq, beq_self_eq_true, show tb 27 = tb_27 from rfl, tb_27, tb_27_0, tb_27_1, tb_27_2, pfb, pfb_b, pfb_c, pfb_v, pfa_b, pfa_c, pfa_v, q1, q2, q3, h1, r0, hs0]
          exact ⟨fun _ => ⟨rfl, hS, hL, h2, h1.trans hB1.symm⟩, fun h => by omega⟩
        · rw [if_neg hs0]
          refine G_w (pfb_ok X) LK_27 (fun i => false) 40 _ _ _ _ ?_
          simp only [f_0, f_s, f_iconst, f_bipush, f_sipush, f_ldc, f_ldc_w, f_ldc2_w, f_ldI, f_ldL, f_ldA, f_iload, f_iload_n, f_lload, f_lload_n, f_aload, f_aload_n, f_istore, f_istore_n, f_lstore, f_lstore_n, f_astore, f_astore_n, f_iinc, f_icI, f_iadd, f_isub, f_imul, f_idiv, f_irem, f_iand, f_ior, f_ixor, f_ishl, f_ishr, f_iushr, f_i2l, f_i2b, f_i2s, f_ladd, f_lmul, f_lcmp, f_dupI, f_dupR, f_dup2, f_pop, f_goto, f_if, f_icmp, f_tab, f_ts0, f_ts1, f_getI, f_getZ, f_getR, f_putI, f_putR, f_gets, f_iald, f_bald, f_aald, f_iast, f_bast, f_aast, f_alen, f_new, f_newa, f_anew, f_virt, f_stat0, f_stat1, f_spec0, f_spec1, f_spec9, f_copy, f_max, f_min, f_cV1, f_cV0, f_cS1, f_cS0, f_iret, f_lret, f_vret, f_kG, pf0, cIg, inR, lget, lset, lset2, clr, entL, cnd, psh, catS, tsw, List.take_succ_cons, List.take_zero, List.drop_succ_cons, List.drop_zero, List.reverse_cons, List.reverse_nil, List.nil_append, List.cons_append, List.length_cons, List.length_nil, List.replicate_succ, List.replicate_zero, Nat.reduceAdd, Nat.reduceSub, Nat.reduceLeDiff, Nat.reduceLT, Nat.reduceEqDiff, Nat.reduceMul, Nat.zero_add, Nat.add_zero, Nat.le_refl, Nat.zero_le, Int.reduceEq, Int.reduceToNat, Int.toNat_natCast, Int.reduceNeg, Int.reduceAdd, Int.reduceSub, Int.reduceMul, Int.reduceLT, Int.reduceLE, Int.reduceDiv, Int.reduceMod, Bool.false_eq_true, ↓reduceIte, true_and, and_true, implies_true, forall_const, true_or, or_true, or_false, false_or, not_true_eq_false, not_false_eq_true, false_implies, Prod.mk.injEq, Fin.val_zero, Fin.val_one, Fin.isValue, Fin.reduceFinMk, Fin.val_two, mR_uI, mK_uI, mN_uI, mI_uR, mK_uR, mN_uR, mR_uC, mK_uC, mN_uC, Option.some.injEq, Sum.inl.injEq, Sum.inr.injEq, decide_true, decide_false, Bool.or_false, Bool.false_or, Bool.or_true, Bool.true_or, Nat.reduceBEq, beq_self_eq_true, show tb 27 = tb_27 from rfl, tb_27, tb_27_0, tb_27_1, tb_27_2, pfb, pfb_b, pfb_c, pfb_v, pfa_b, pfa_c, pfa_v, q1, q2, q3, h1, r0, hs0, hs9]
          refine ⟨fun _ => ?_, fun h => by omega⟩
          refine Ev_mono (e_signedNumber X M1 s hs1 hR ok) (fun r M2 hr _ _ => ?_)
          obtain ⟨rfl, rfl⟩ := hr
          simp only [f_kG, psh, Nat.reduceAdd]
          refine G_w (pfb_ok X) LK_27 (fun i => false) 40 _ _ _ _ ?_
          simp only [f_0, f_s, f_iconst, f_bipush, f_sipush, f_ldc, f_ldc_w, f_ldc2_w, f_ldI, f_ldL, f_ldA, f_iload, f_iload_n, f_lload, f_lload_n, f_aload, f_aload_n, f_istore, f_istore_n, f_lstore, f_lstore_n, f_astore, f_astore_n, f_iinc, f_icI, f_iadd, f_isub, f_imul, f_idiv, f_irem, f_iand, f_ior, f_ixor, f_ishl, f_ishr, f_iushr, f_i2l, f_i2b, f_i2s, f_ladd, f_lmul, f_lcmp, f_dupI, f_dupR, f_dup2, f_pop, f_goto, f_if, f_icmp, f_tab, f_ts0, f_ts1, f_getI, f_getZ, f_getR, f_putI, f_putR, f_gets, f_iald, f_bald, f_aald, f_iast, f_bast, f_aast, f_alen, f_new, f_newa, f_anew, f_virt, f_stat0, f_stat1, f_spec0, f_spec1, f_spec9, f_copy, f_max, f_min, f_cV1, f_cV0, f_cS1, f_cS0, f_iret, f_lret, f_vret, f_kG, pf0, cIg, inR, lget, lset, lset2, clr, entL, cnd, psh, catS, tsw, List.take_succ_cons, List.take_zero, List.drop_succ_cons, List.drop_zero, List.reverse_cons, List.reverse_nil, List.nil_append, List.cons_append, List.length_cons, List.length_nil, List.replicate_succ, List.replicate_zero, Nat.reduceAdd, Nat.reduceSub, Nat.reduceLeDiff, Nat.reduceLT, Nat.reduceEqDiff, Nat.reduceMul, Nat.zero_add, Nat.add_zero, Nat.le_refl, Nat.zero_le, Int.reduceEq, Int.reduceToNat, Int.toNat_natCast, Int.reduceNeg, Int.reduceAdd, Int.reduceSub, Int.reduceMul, Int.reduceLT, Int.reduceLE, Int.reduceDiv, Int.reduceMod, Bool.false_eq_true, ↓reduceIte, true_and, and_true, implies_true, forall_const, true_or, or_true, or_false, false_or, not_true_eq_false, not_false_eq_true, false_implies, Prod.mk.injEq, Fin.val_zero, Fin.val_one, Fin.isValue, Fin.reduceFinMk, Fin.val_two, mR_uI, mK_uI, mN_uI, mI_uR, mK_uR, mN_uR, mR_uC, mK_uC, mN_uC, Option.some.injEq, Sum.inl.injEq, Sum.inr.injEq, decide_true, decide_false, Bool.or_false, Bool.false_or, Bool.or_true, Bool.true_or, Nat.reduceBEq, beq_self_eq_true, show tb 27 = tb_27 from rfl, tb_27, tb_27_0, tb_27_1, tb_27_2, pfb, pfb_b, pfb_c, pfb_v, pfa_b, pfa_c, pfa_v, q2, q3, r3]
          refine Ev_mono (e_add X M2 p (sgR s) s.2.2.2.1 o L (hS.pa hp0) hL okL (by omega) (sgR_b ok) ok.2.2.2.1) (fun r M3 hr _ _ => ?_)
          obtain ⟨rfl, w1, w2⟩ := hr
          simp only [f_kG, psh, Nat.reduceAdd]
          refine G_w (pfb_ok X) LK_27 (fun i => false) 40 _ _ _ _ ?_
          simp only [f_0, f_s, f_iconst, f_bipush, f_sipush, f_ldc, f_ldc_w, f_ldc2_w, f_ldI, f_ldL, f_ldA, f_iload, f_iload_n, f_lload, f_lload_n, f_aload, f_aload_n, f_istore, f_istore_n, f_lstore, f_lstore_n, f_astore, f_astore_n, f_iinc, f_icI, f_iadd, f_isub, f_imul, f_idiv, f_irem, f_iand, f_ior, f_ixor, f_ishl, f_ishr, f_iushr, f_i2l, f_i2b, f_i2s, f_ladd, f_lmul, f_lcmp, f_dupI, f_dupR, f_dup2, f_pop, f_goto, f_if, f_icmp, f_tab, f_ts0, f_ts1, f_getI, f_getZ, f_getR, f_putI, f_putR, f_gets, f_iald, f_bald, f_aald, f_iast, f_bast, f_aast, f_alen, f_new, f_newa, f_anew, f_virt, f_stat0, f_stat1, f_spec0, f_spec1, f_spec9, f_copy, f_max, f_min, f_cV1, f_cV0, f_cS1, f_cS0, f_iret, f_lret, f_vret, f_kG, pf0, cIg, inR, lget, lset, lset2, clr, entL, cnd, psh, catS, tsw, List.take_succ_cons, List.take_zero, List.drop_succ_cons, List.drop_zero, List.reverse_cons, List.reverse_nil, List.nil_append, List.cons_append, List.length_cons, List.length_nil, List.replicate_succ, List.replicate_zero, Nat.reduceAdd, Nat.reduceSub, Nat.reduceLeDiff, Nat.reduceLT, Nat.reduceEqDiff, Nat.reduceMul, Nat.zero_add, Nat.add_zero, Nat.le_refl, Nat.zero_le, Int.reduceEq, Int.reduceToNat, Int.toNat_natCast, Int.reduceNeg, Int.reduceAdd, Int.reduceSub, Int.reduceMul, Int.reduceLT, Int.reduceLE, Int.reduceDiv, Int.reduceMod, Bool.false_eq_true, ↓reduceIte, true_and, and_true, implies_true, forall_const, true_or, or_true, or_false, false_or, not_true_eq_false, not_false_eq_true, false_implies, Prod.mk.injEq, Fin.val_zero, Fin.val_one, Fin.isValue, Fin.reduceFinMk, Fin.val_two, mR_uI, mK_uI, mN_uI, mI_uR, mK_uR, mN_uR, mR_uC, mK_uC, mN_uC, Option.some.injEq, Sum.inl.injEq, Sum.inr.injEq, decide_true, decide_false, Bool.or_false, Bool.false_or, Bool.or_true, Bool.true_or, Nat.reduceBEq, beq_self_eq_true, show tb 27 = tb_27 from rfl, tb_27, tb_27_0, tb_27_1, tb_27_2, pfb, pfb_b, pfb_c, pfb_v, pfa_b, pfa_c, pfa_v]
          refine ⟨rfl, Sp hS w2, w1, (w2.2.2.2 _ _ (by unfold T3; omega)).trans h2, (w2.2.2.2 _ _ (by unfold T3; omega)).trans (h1.trans hB1.symm)⟩
    | cons b B2 ih =>
      intro i s L M1 hd hi hS hR ok hL okL hl h1 h2
      obtain ⟨d1, d2, d3⟩ := drop_cons hd
      have hs1 := hS.shp hs hbs
      have q1 := (hS.1 a).trans a1
      have q2 := (hS.1 3).trans k3
      have q3 := (hS.1 p).trans p1
      have q4 := (hS.2.2.1 a 0).trans a2
      have q5 := (hS.1 (a + 1)).trans a3
      have q6 := (hS.2.1 (a + 1)).trans a4
      have q7 := (hS.2.2.2 (a + 1) i (by unfold TR T3; omega)).trans (hB i b d1)
      have hlt : ¬ (B.length : Int) ≤ (i : Int) := by omega
      refine G_w (pfb_ok X) LK_27 (fun i => false) 40 _ _ _ _ ?_
      simp only [f_0, f_s, f_iconst, f_bipush, f_sipush, f_ldc, f_ldc_w, f_ldc2_w, f_ldI, f_ldL, f_ldA, f_iload, f_iload_n, f_lload, f_lload_n, f_aload, f_aload_n, f_istore, f_istore_n, f_lstore, f_lstore_n, f_astore, f_astore_n, f_iinc, f_icI, f_iadd, f_isub, f_imul, f_idiv, f_irem, f_iand, f_ior, f_ixor, f_ishl, f_ishr, f_iushr, f_i2l, f_i2b, f_i2s, f_ladd, f_lmul, f_lcmp, f_dupI, f_dupR, f_dup2, f_pop, f_goto, f_if, f_icmp, f_tab, f_ts0, f_ts1, f_getI, f_getZ, f_getR, f_putI, f_putR, f_gets, f_iald, f_bald, f_aald, f_iast, f_bast, f_aast, f_alen, f_new, f_newa, f_anew, f_virt, f_stat0, f_stat1, f_spec0, f_spec1, f_spec9, f_copy, f_max, f_min, f_cV1, f_cV0, f_cS1, f_cS0, f_iret, f_lret, f_vret, f_kG, pf0, cIg, inR, lget, lset, lset2, clr, entL, cnd, psh, catS, tsw, List.take_succ_cons, List.take_zero, List.drop_succ_cons, List.drop_zero, List.reverse_cons, List.reverse_nil, List.nil_append, List.cons_append, List.length_cons, List.length_nil, List.replicate_succ, List.replicate_zero, Nat.reduceAdd, Nat.reduceSub, Nat.reduceLeDiff, Nat.reduceLT, Nat.reduceEqDiff, Nat.reduceMul, Nat.zero_add, Nat.add_zero, Nat.le_refl, Nat.zero_le, Int.reduceEq, Int.reduceToNat, Int.toNat_natCast, Int.reduceNeg, Int.reduceAdd, Int.reduceSub, Int.reduceMul, Int.reduceLT, Int.reduceLE, Int.reduceDiv, Int.reduceMod, Bool.false_eq_true, ↓reduceIte, true_and, and_true, implies_true, forall_const, true_or, or_true, or_false, false_or, not_true_eq_false, not_false_eq_true, false_implies, Prod.mk.injEq, Fin.val_zero, Fin.val_one, Fin.isValue, Fin.reduceFinMk, Fin.val_two, mR_uI, mK_uI, mN_uI, mI_uR, mK_uR, mN_uR, mR_uC, mK_uC, mN_uC, Option.some.injEq, Sum.inl.injEq, Sum.inr.injEq, decide_true, decide_false, Bool.or_false, Bool.false_or, Bool.or_true, Bool.true_or, Nat.reduceBEq, beq_self_eq_true, show tb 27 = tb_27 from rfl, tb_27, tb_27_0, tb_27_1, tb_27_2, pfb, pfb_b, pfb_c, pfb_v, pfa_b, pfa_c, pfa_v, q1, q2, q3, q4, q5, q6, q7, h1, hlt]
      refine ⟨by omega, ?_⟩
      refine Ev_mono (e_isNext X M1 s b hs1 hR ok) (fun r M2 hr _ _ => ?_)
      obtain ⟨w1, ⟨t, w2, rfl, w3⟩ | ⟨w2, rfl⟩⟩ := hr
      · obtain ⟨okt, tsg⟩ := nxR_ok ok w2
        have hS2 := S3 hS w1
        have hs2 := hS2.shp hs hbs
        have g1 := (hS2.1 a).trans a1
        have g2 := (hS2.1 3).trans k3
        have g3 := (hS2.1 p).trans p1
        have g4 := (hS2.2.2.1 a 0).trans a2
        have g5 := (hS2.1 (a + 1)).trans a3
        have g6 := (hS2.2.1 (a + 1)).trans a4
        have g7 := (hS2.2.2.2 (a + 1) i (by unfold TR T3; omega)).trans (hB i b d1)
        have t0 := w3.1
        have t3 := w3.2.2.2.1
        have hL2 : PL M2 p L := PL_same hL w1.2.2.2 (by omega) (by omega) (by omega)
        have f1 := (w1.2.2.2 a 1 (by omega)).trans h1
        have f2 := (w1.2.2.2 a 2 (by omega)).trans h2
        rw [rdL, w2]
        simp only
        by_cases ht1 : t.1 = 1
        · rw [if_pos ht1]
          have begins : ∀ (L3 : Po) (M3 : Mem), Same M M3 (TR p a) → RD M3 t → PL M3 p L3 → okP L3 → L3.length ≤ i → mI M3 a 1 = B.length → mI M3 a 2 = -1 → G X y_Reader_readText (mZ M, mS M, 0, 0) 45 [some (aR (some 3)), some (aR (some a)), some (aR (some p)), some (aI o), some (aI i)] [] M3 (RT M p a (rdL o B2 (i + 1) (1, (if b = 45 then 1 else 0), 1, 0, t.2.2.2.2) L3)) := by
            intro L3 M3 hS3 hR3 hL3 ok3 hl3 y1 y2
            have hs3 := hS3.shp hs hbs
            have m1 := (hS3.1 a).trans a1
            have m2 := (hS3.1 3).trans k3
            have m4 := (hS3.2.2.1 a 0).trans a2
            have m5 := (hS3.1 (a + 1)).trans a3
            have m6 := (hS3.2.1 (a + 1)).trans a4
            have m7 := (hS3.2.2.2 (a + 1) i (by unfold TR T3; omega)).trans (hB i b d1)
            have fin : ∀ n : Int, n = (if b = 45 then 1 else 0) → Ev X y_Reader_beginTerm (0, 0) [aR (some 3), aI n] M3 (kG X y_Reader_readText (mZ M, mS M, 0, 0) (RT M p a (rdL o B2 (i + 1) (1, (if b = 45 then 1 else 0), 1, 0, t.2.2.2.2) L3)) 55 [some (aR (some 3)), some (aR (some a)), some (aR (some p)), some (aI o), some (aI i)] []) := by
              intro n hn
              refine Ev_mono (e_beginTerm X M3 t n hs3 hR3 (by rw [hn]; split <;> omega)) (fun r M4 hr _ _ => ?_)
              obtain ⟨rfl, z1, z2⟩ := hr
              simp only [f_kG, psh, Nat.reduceAdd]
              refine G_w (pfb_ok X) LK_27 (fun i => i == 14) 40 _ _ _ _ ?_
              simp only [f_0, f_s, f_iconst, f_bipush, f_sipush, f_ldc, f_ldc_w, f_ldc2_w, f_ldI, f_ldL, f_ldA, f_iload, f_iload_n, f_lload, f_lload_n, f_aload, f_aload_n, f_istore, f_istore_n, f_lstore, f_lstore_n, f_astore, f_astore_n, f_iinc, f_icI, f_iadd, f_isub, f_imul, f_idiv, f_irem, f_iand, f_ior, f_ixor, f_ishl, f_ishr, f_iushr, f_i2l, f_i2b, f_i2s, f_ladd, f_lmul, f_lcmp, f_dupI, f_dupR, f_dup2, f_pop, f_goto, f_if, f_icmp, f_tab, f_ts0, f_ts1, f_getI, f_getZ, f_getR, f_putI, f_putR, f_gets, f_iald, f_bald, f_aald, f_iast, f_bast, f_aast, f_alen, f_new, f_newa, f_anew, f_virt, f_stat0, f_stat1, f_spec0, f_spec1, f_spec9, f_copy, f_max, f_min, f_cV1, f_cV0, f_cS1, f_cS0, f_iret, f_lret, f_vret, f_kG, pf0, cIg, inR, lget, lset, lset2, clr, entL, cnd, psh, catS, tsw, List.take_succ_cons, List.take_zero, List.drop_succ_cons, List.drop_zero, List.reverse_cons, List.reverse_nil, List.nil_append, List.cons_append, List.length_cons, List.length_nil, List.replicate_succ, List.replicate_zero, Nat.reduceAdd, Nat.reduceSub, Nat.reduceLeDiff, Nat.reduceLT, Nat.reduceEqDiff, Nat.reduceMul, Nat.zero_add, Nat.add_zero, Nat.le_refl, Nat.zero_le, Int.reduceEq, Int.reduceToNat, Int.toNat_natCast, Int.reduceNeg, Int.reduceAdd, Int.reduceSub, Int.reduceMul, Int.reduceLT, Int.reduceLE, Int.reduceDiv, Int.reduceMod, Bool.false_eq_true, ↓reduceIte, true_and, and_true, implies_true, forall_const, true_or, or_true, or_false, false_or, not_true_eq_false, not_false_eq_true, false_implies, Prod.mk.injEq, Fin.val_zero, Fin.val_one, Fin.isValue, Fin.reduceFinMk, Fin.val_two, mR_uI, mK_uI, mN_uI, mI_uR, mK_uR, mN_uR, mR_uC, mK_uC, mN_uC, Option.some.injEq, Sum.inl.injEq, Sum.inr.injEq, decide_true, decide_false, Bool.or_false, Bool.false_or, Bool.or_true, Bool.true_or, Nat.reduceBEq, beq_self_eq_true, show tb 27 = tb_27 from rfl, tb_27, tb_27_0, tb_27_1, tb_27_2, pfb, pfb_b, pfb_c, pfb_v, pfa_b, pfa_c, pfa_v]
              refine ⟨by omega, ?_⟩
              rw [← hn]
              rw [ht1] at z1
              exact ih (i + 1) _ L3 M4 d2 (by omega) (S3 hS3 z2) z1 ⟨by simp, by simp only; rw [hn]; split <;> omega, by simp, by unfold isPr; simp, fun h => by simp at h⟩ (PL_same hL3 z2.2.2.2 (by omega) (by omega) (by omega)) ok3 (by omega) ((z2.2.2.2 a 1 (by omega)).trans y1) ((z2.2.2.2 a 2 (by omega)).trans y2)
            by_cases h45 : b = 45
            · have fin := fin 1 (by rw [if_pos h45])
              refine G_w (pfb_ok X) LK_27 (fun i => i == 14) 40 _ _ _ _ ?_
              simp only [f_0, f_s, f_iconst, f_bipush, f_sipush, f_ldc, f_ldc_w, f_ldc2_w, f_ldI, f_ldL, f_ldA, f_iload, f_iload_n, f_lload, f_lload_n, f_aload, f_aload_n, f_istore, f_istore_n, f_lstore, f_lstore_n, f_astore, f_astore_n, f_iinc, f_icI, f_iadd, f_isub, f_imul, f_idiv, f_irem, f_iand, f_ior, f_ixor, f_ishl, f_ishr, f_iushr, f_i2l, f_i2b, f_i2s, f_ladd, f_lmul, f_lcmp, f_dupI, f_dupR, f_dup2, f_pop, f_goto, f_if, f_icmp, f_tab, f_ts0, f_ts1, f_getI, f_getZ, f_getR, f_putI, f_putR, f_gets, f_iald, f_bald, f_aald, f_iast, f_bast, f_aast, f_alen, f_new, f_newa, f_anew, f_virt, f_stat0, f_stat1, f_spec0, f_spec1, f_spec9, f_copy, f_max, f_min, f_cV1, f_cV0, f_cS1, f_cS0, f_iret, f_lret, f_vret, f_kG, pf0, cIg, inR, lget, lset, lset2, clr, entL, cnd, psh, catS, tsw, List.take_succ_cons, List.take_zero, List.drop_succ_cons, List.drop_zero, List.reverse_cons, List.reverse_nil, List.nil_append, List.cons_append, List.length_cons, List.length_nil, List.replicate_succ, List.replicate_zero, Nat.reduceAdd, Nat.reduceSub, Nat.reduceLeDiff, Nat.reduceLT, Nat.reduceEqDiff, Nat.reduceMul, Nat.zero_add, Nat.add_zero, Nat.le_refl, Nat.zero_le, Int.reduceEq, Int.reduceToNat, Int.toNat_natCast, Int.reduceNeg, Int.reduceAdd, Int.reduceSub, Int.reduceMul, Int.reduceLT, Int.reduceLE, Int.reduceDiv, Int.reduceMod, Bool.false_eq_true, ↓reduceIte, true_and, and_true, implies_true, forall_const, true_or, or_true, or_false, false_or, not_true_eq_false, not_false_eq_true, false_implies, Prod.mk.injEq, Fin.val_zero, Fin.val_one, Fin.isValue, Fin.reduceFinMk, Fin.val_two, mR_uI, mK_uI, mN_uI, mI_uR, mK_uR, mN_uR, mR_uC, mK_uC, mN_uC, Option.some.injEq, Sum.inl.injEq, Sum.inr.injEq, decide_true, decide_false, Bool.or_false, Bool.false_or, Bool.or_true, Bool.true_or, Nat.reduceBEq, beq_self_eq_true, show tb 27 = tb_27 from rfl, tb_27, tb_27_0, tb_27_1, tb_27_2, pfb, pfb_b, pfb_c, pfb_v, pfa_b, pfa_c, pfa_v, m1, m2, m4, m5, m6, m7, h45]
              refine ⟨by omega, ?_⟩
              rw [if_pos h45] at fin
              exact fin
            · have fin := fin 0 (by rw [if_neg h45])
              refine G_w (pfb_ok X) LK_27 (fun i => i == 14) 40 _ _ _ _ ?_
              simp only [f_0, f_s, f_iconst, f_bipush, f_sipush, f_ldc, f_ldc_w, f_ldc2_w, f_ldI, f_ldL, f_ldA, f_iload, f_iload_n, f_lload, f_lload_n, f_aload, f_aload_n, f_istore, f_istore_n, f_lstore, f_lstore_n, f_astore, f_astore_n, f_iinc, f_icI, f_iadd, f_isub, f_imul, f_idiv, f_irem, f_iand, f_ior, f_ixor, f_ishl, f_ishr, f_iushr, f_i2l, f_i2b, f_i2s, f_ladd, f_lmul, f_lcmp, f_dupI, f_dupR, f_dup2, f_pop, f_goto, f_if, f_icmp, f_tab, f_ts0, f_ts1, f_getI, f_getZ, f_getR, f_putI, f_putR, f_gets, f_iald, f_bald, f_aald, f_iast, f_bast, f_aast, f_alen, f_new, f_newa, f_anew, f_virt, f_stat0, f_stat1, f_spec0, f_spec1, f_spec9, f_copy, f_max, f_min, f_cV1, f_cV0, f_cS1, f_cS0, f_iret, f_lret, f_vret, f_kG, pf0, cIg, inR, lget, lset, lset2, clr, entL, cnd, psh, catS, tsw, List.take_succ_cons, List.take_zero, List.drop_succ_cons, List.drop_zero, List.reverse_cons, List.reverse_nil, List.nil_append, List.cons_append, List.length_cons, List.length_nil, List.replicate_succ, List.replicate_zero, Nat.reduceAdd, Nat.reduceSub, Nat.reduceLeDiff, Nat.reduceLT, Nat.reduceEqDiff, Nat.reduceMul, Nat.zero_add, Nat.add_zero, Nat.le_refl, Nat.zero_le, Int.reduceEq, Int.reduceToNat, Int.toNat_natCast, Int.reduceNeg, Int.reduceAdd, Int.reduceSub, Int.reduceMul, Int.reduceLT, Int.reduceLE, Int.reduceDiv, Int.reduceMod, Bool.false_eq_true, ↓reduceIte, true_and, and_true, implies_true, forall_const, true_or, or_true, or_false, false_or, not_true_eq_false, not_false_eq_true, false_implies, Prod.mk.injEq, Fin.val_zero, Fin.val_one, Fin.isValue, Fin.reduceFinMk, Fin.val_two, mR_uI, mK_uI, mN_uI, mI_uR, mK_uR, mN_uR, mR_uC, mK_uC, mN_uC, Option.some.injEq, Sum.inl.injEq, Sum.inr.injEq, decide_true, decide_false, Bool.or_false, Bool.false_or, Bool.or_true, Bool.true_or, Nat.reduceBEq, beq_self_eq_true, show tb 27 = tb_27 from rfl, tb_27, tb_27_0, tb_27_1, tb_27_2, pfb, pfb_b, pfb_c, pfb_v, pfa_b, pfa_c, pfa_v, m1, m2, m4, m5, m6, m7, h45]
              refine ⟨by omega, ?_⟩
              rw [if_neg h45] at fin
              exact fin
          by_cases hi0 : i = 0
          · have hi9 : (i : Int) ≤ 0 := by omega
            rw [if_pos hi0]
            simp only [f_kG, psh, Nat.reduceAdd]
            refine G_w (pfb_ok X) LK_27 (fun i => i == 45) 40 _ _ _ _ ?_
            simp only [f_0, f_s, f_iconst, f_bipush, f_sipush, f_ldc, f_ldc_w, f_ldc2_w, f_ldI, f_ldL, f_ldA, f_iload, f_iload_n, f_lload, f_lload_n, f_aload, f_aload_n, f_istore, f_istore_n, f_lstore, f_lstore_n, f_astore, f_astore_n, f_iinc, f_icI, f_iadd, f_isub, f_imul, f_idiv, f_irem, f_iand, f_ior, f_ixor, f_ishl, f_ishr, f_iushr, f_i2l, f_i2b, f_i2s, f_ladd, f_lmul, f_lcmp, f_dupI, f_dupR, f_dup2, f_pop, f_goto, f_if, f_icmp, f_tab, f_ts0, f_ts1, f_getI, f_getZ, f_getR, f_putI, f_putR, f_gets, f_iald, f_bald, f_aald, f_iast, f_bast, f_aast, f_alen, f_new, f_newa, f_anew, f_virt, f_stat0, f_stat1, f_spec0, f_spec1, f_spec9, f_copy, f_max, f_min, f_cV1, f_cV0, f_cS1, f_cS0, f_iret, f_lret, f_vret, f_kG, pf0, cIg, inR, lget, lset, lset2, clr, entL, cnd, psh, catS, tsw, List.take_succ_cons, List.take_zero, List.drop_succ_cons, List.drop_zero, List.reverse_cons, List.reverse_nil, List.nil_append, List.cons_append, List.length_cons, List.length_nil, List.replicate_succ, List.replicate_zero, Nat.reduceAdd, Nat.reduceSub, Nat.reduceLeDiff, Nat.reduceLT, Nat.reduceEqDiff, Nat.reduceMul, Nat.zero_add, Nat.add_zero, Nat.le_refl, Nat.zero_le, Int.reduceEq, Int.reduceToNat, Int.toNat_natCast, Int.reduceNeg, Int.reduceAdd, Int.reduceSub, Int.reduceMul, Int.reduceLT, Int.reduceLE, Int.reduceDiv, Int.reduceMod, Bool.false_eq_true, ↓reduceIte, true_and, and_true, implies_true, forall_const, true_or, or_true, or_false, false_or, not_true_eq_false, not_false_eq_true, false_implies, Prod.mk.injEq, Fin.val_zero, Fin.val_one, Fin.isValue, Fin.reduceFinMk, Fin.val_two, mR_uI, mK_uI, mN_uI, mI_uR, mK_uR, mN_uR, mR_uC, mK_uC, mN_uC, Option.some.injEq, Sum.inl.injEq, Sum.inr.injEq, decide_true, decide_false, Bool.or_false, Bool.false_or, Bool.or_true, Bool.true_or, Nat.reduceBEq, beq_self_eq_true, show tb 27 = tb_27 from rfl, tb_27, tb_27_0, tb_27_1, tb_27_2, pfb, pfb_b, pfb_c, pfb_v, pfa_b, pfa_c, pfa_v, g2, t0, ht1, hi9]
            exact begins L M2 hS2 w3 hL2 okL (by omega) f1 f2
          · have hi9 : ¬ (i : Int) ≤ 0 := by omega
            rw [if_neg hi0]
            simp only [f_kG, psh, Nat.reduceAdd]
            refine G_w (pfb_ok X) LK_27 (fun i => i == 45) 40 _ _ _ _ ?_
            simp only [f_0, f_s, f_iconst, f_bipush, f_sipush, f_ldc, f_ldc_w, f_ldc2_w, f_ldI, f_ldL, f_ldA, f_iload, f_iload_n, f_lload, f_lload_n, f_aload, f_aload_n, f_istore, f_istore_n, f_lstore, f_lstore_n, f_astore, f_astore_n, f_iinc, f_icI, f_iadd, f_isub, f_imul, f_idiv, f_irem, f_iand, f_ior, f_ixor, f_ishl, f_ishr, f_iushr, f_i2l, f_i2b, f_i2s, f_ladd, f_lmul, f_lcmp, f_dupI, f_dupR, f_dup2, f_pop, f_goto, f_if, f_icmp, f_tab, f_ts0, f_ts1, f_getI, f_getZ, f_getR, f_putI, f_putR, f_gets, f_iald, f_bald, f_aald, f_iast, f_bast, f_aast, f_alen, f_new, f_newa, f_anew, f_virt, f_stat0, f_stat1, f_spec0, f_spec1, f_spec9, f_copy, f_max, f_min, f_cV1, f_cV0, f_cS1, f_cS0, f_iret, f_lret, f_vret, f_kG, pf0, cIg, inR, lget, lset, lset2, clr, entL, cnd, psh, catS, tsw, List.take_succ_cons, List.take_zero, List.drop_succ_cons, List.drop_zero, List.reverse_cons, List.reverse_nil, List.nil_append, List.cons_append, List.length_cons, List.length_nil, List.replicate_succ, List.replicate_zero, Nat.reduceAdd, Nat.reduceSub, Nat.reduceLeDiff, Nat.reduceLT, Nat.reduceEqDiff, Nat.reduceMul, Nat.zero_add, Nat.add_zero, Nat.le_refl, Nat.zero_le, Int.reduceEq, Int.reduceToNat, Int.toNat_natCast, Int.reduceNeg, Int.reduceAdd, Int.reduceSub, Int.reduceMul, Int.reduceLT, Int.reduceLE, Int.reduceDiv, Int.reduceMod, Bool.false_eq_true, ↓reduceIte, true_and, and_true, implies_true, forall_const, true_or, or_true, or_false, false_or, not_true_eq_false, not_false_eq_true, false_implies, Prod.mk.injEq, Fin.val_zero, Fin.val_one, Fin.isValue, Fin.reduceFinMk, Fin.val_two, mR_uI, mK_uI, mN_uI, mI_uR, mK_uR, mN_uR, mR_uC, mK_uC, mN_uC, Option.some.injEq, Sum.inl.injEq, Sum.inr.injEq, decide_true, decide_false, Bool.or_false, Bool.false_or, Bool.or_true, Bool.true_or, Nat.reduceBEq, beq_self_eq_true, show tb 27 = tb_27 from rfl, tb_27, tb_27_0, tb_27_1, tb_27_2, pfb, pfb_b, pfb_c, pfb_v, pfa_b, pfa_c, pfa_v, g2, g3, t0, ht1, hi9]
            refine Ev_mono (e_signedNumber X M2 t hs2 w3 okt) (fun r M3 hr _ _ => ?_)
            obtain ⟨rfl, rfl⟩ := hr
            simp only [f_kG, psh, Nat.reduceAdd]
            refine G_w (pfb_ok X) LK_27 (fun i => i == 45) 40 _ _ _ _ ?_
            simp only [f_0, f_s, f_iconst, f_bipush, f_sipush, f_ldc, f_ldc_w, f_ldc2_w, f_ldI, f_ldL, f_ldA, f_iload, f_iload_n, f_lload, f_lload_n, f_aload, f_aload_n, f_istore, f_istore_n, f_lstore, f_lstore_n, f_astore, f_astore_n, f_iinc, f_icI, f_iadd, f_isub, f_imul, f_idiv, f_irem, f_iand, f_ior, f_ixor, f_ishl, f_ishr, f_iushr, f_i2l, f_i2b, f_i2s, f_ladd, f_lmul, f_lcmp, f_dupI, f_dupR, f_dup2, f_pop, f_goto, f_if, f_icmp, f_tab, f_ts0, f_ts1, f_getI, f_getZ, f_getR, f_putI, f_putR, f_gets, f_iald, f_bald, f_aald, f_iast, f_bast, f_aast, f_alen, f_new, f_newa, f_anew, f_virt, f_stat0, f_stat1, f_spec0, f_spec1, f_spec9, f_copy, f_max, f_min, f_cV1, f_cV0, f_cS1, f_cS0, f_iret, f_lret, f_vret, f_kG, pf0, cIg, inR, lget, lset, lset2, clr, entL, cnd, psh, catS, tsw, List.take_succ_cons, List.take_zero, List.drop_succ_cons, List.drop_zero, List.reverse_cons, List.reverse_nil, List.nil_append, List.cons_append, List.length_cons, List.length_nil, List.replicate_succ, List.replicate_zero, Nat.reduceAdd, Nat.reduceSub, Nat.reduceLeDiff, Nat.reduceLT, Nat.reduceEqDiff, Nat.reduceMul, Nat.zero_add, Nat.add_zero, Nat.le_refl, Nat.zero_le, Int.reduceEq, Int.reduceToNat, Int.toNat_natCast, Int.reduceNeg, Int.reduceAdd, Int.reduceSub, Int.reduceMul, Int.reduceLT, Int.reduceLE, Int.reduceDiv, Int.reduceMod, Bool.false_eq_true, ↓reduceIte, true_and, and_true, implies_true, forall_const, true_or, or_true, or_false, false_or, not_true_eq_false, not_false_eq_true, false_implies, Prod.mk.injEq, Fin.val_zero, Fin.val_one, Fin.isValue, Fin.reduceFinMk, Fin.val_two, mR_uI, mK_uI, mN_uI, mI_uR, mK_uR, mN_uR, mR_uC, mK_uC, mN_uC, Option.some.injEq, Sum.inl.injEq, Sum.inr.injEq, decide_true, decide_false, Bool.or_false, Bool.false_or, Bool.or_true, Bool.true_or, Nat.reduceBEq, beq_self_eq_true, show tb 27 = tb_27 from rfl, tb_27, tb_27_0, tb_27_1, tb_27_2, pfb, pfb_b, pfb_c, pfb_v, pfa_b, pfa_c, pfa_v, g2, g3, t3]
            refine Ev_mono (e_add X M3 p (sgR t) t.2.2.2.1 o L (hS2.pa hp0) hL2 okL (by omega) (sgR_b okt) okt.2.2.2.1) (fun r M4 hr _ _ => ?_)
            obtain ⟨rfl, z1, z2⟩ := hr
            have hal := addT_len o (sgR t) t.2.2.2.1 L
            have z3 : RD M4 t := by
              obtain ⟨v0, v1, v2, v3, v4⟩ := w3
              exact ⟨(z2.2.2.2 _ _ (by unfold T3; omega)).trans v0, (z2.2.2.2 _ _ (by unfold T3; omega)).trans v1, (z2.2.2.2 _ _ (by unfold T3; omega)).trans v2, (z2.2.2.2 _ _ (by unfold T3; omega)).trans v3, (z2.2.2.2 _ _ (by unfold T3; omega)).trans v4⟩
            exact begins _ M4 (Sp hS2 z2) z3 z1 (addT_ok okL (sgR_b okt) okt.2.2.2.1) (by omega) ((z2.2.2.2 a 1 (by unfold T3; omega)).trans f1) ((z2.2.2.2 a 2 (by unfold T3; omega)).trans f2)
        · rw [if_neg ht1]
          simp only [f_kG, psh, Nat.reduceAdd]
          refine G_w (pfb_ok X) LK_27 (fun i => i == 14) 40 _ _ _ _ ?_
          simp only [f_0, f_s, f_iconst, f_bipush, f_sipush, f_ldc, f_ldc_w, f_ldc2_w, f_ldI, f_ldL, f_ldA, f_iload, f_iload_n, f_lload, f_lload_n, f_aload, f_aload_n, f_istore, f_istore_n, f_lstore, f_lstore_n, f_astore, f_astore_n, f_iinc, f_icI, f_iadd, f_isub, f_imul, f_idiv, f_irem, f_iand, f_ior, f_ixor, f_ishl, f_ishr, f_iushr, f_i2l, f_i2b, f_i2s, f_ladd, f_lmul, f_lcmp, f_dupI, f_dupR, f_dup2, f_pop, f_goto, f_if, f_icmp, f_tab, f_ts0, f_ts1, f_getI, f_getZ, f_getR, f_putI, f_putR, f_gets, f_iald, f_bald, f_aald, f_iast, f_bast, f_aast, f_alen, f_new, f_newa, f_anew, f_virt, f_stat0, f_stat1, f_spec0, f_spec1, f_spec9, f_copy, f_max, f_min, f_cV1, f_cV0, f_cS1, f_cS0, f_iret, f_lret, f_vret, f_kG, pf0, cIg, inR, lget, lset, lset2, clr, entL, cnd, psh, catS, tsw, List.take_succ_cons, List.take_zero, List.drop_succ_cons, List.drop_zero, List.reverse_cons, List.reverse_nil, List.nil_append, List.cons_append, List.length_cons, List.length_nil, List.replicate_succ, List.replicate_zero, Nat.reduceAdd, Nat.reduceSub, Nat.reduceLeDiff, Nat.reduceLT, Nat.reduceEqDiff, Nat.reduceMul, Nat.zero_add, Nat.add_zero, Nat.le_refl, Nat.zero_le, Int.reduceEq, Int.reduceToNat, Int.toNat_natCast, Int.reduceNeg, Int.reduceAdd, Int.reduceSub, Int.reduceMul, Int.reduceLT, Int.reduceLE, Int.reduceDiv, Int.reduceMod, Bool.false_eq_true, ↓reduceIte, true_and, and_true, implies_true, forall_const, true_or, or_true, or_false, false_or, not_true_eq_false, not_false_eq_true, false_implies, Prod.mk.injEq, Fin.val_zero, Fin.val_one, Fin.isValue, Fin.reduceFinMk, Fin.val_two, mR_uI, mK_uI, mN_uI, mI_uR, mK_uR, mN_uR, mR_uC, mK_uC, mN_uC, Option.some.injEq, Sum.inl.injEq, Sum.inr.injEq, decide_true, decide_false, Bool.or_false, Bool.false_or, Bool.or_true, Bool.true_or, Nat.reduceBEq, beq_self_eq_true, show tb 27 = tb_27 from rfl, tb_27, tb_27_0, tb_27_1, tb_27_2, pfb, pfb_b, pfb_c, pfb_v, pfa_b, pfa_c, pfa_v, g2, t0, ht1]
          exact ⟨by omega, ih (i + 1) t L M2 d2 (by omega) hS2 w3 okt hL2 okL (by omega) f1 f2⟩
      · have hS2 := S3 hS w1
        have g1 := (hS2.1 a).trans a1
        have g3 := (hS2.1 p).trans p1
        have f1 := (w1.2.2.2 a 1 (by omega)).trans h1
        rw [rdL, w2]
        simp only [f_kG, psh, Nat.reduceAdd]
        refine G_w (pfb_ok X) LK_27 (fun i => false) 40 _ _ _ _ ?_
        simp only [f_0, f_s, f_iconst, f_bipush, f_sipush, f_ldc, f_ldc_w, f_ldc2_w, f_ldI, f_ldL, f_ldA, f_iload, f_iload_n, f_lload, f_lload_n, f_aload, f_aload_n, f_istore, f_istore_n, f_lstore, f_lstore_n, f_astore, f_astore_n, f_iinc, f_icI, f_iadd, f_isub, f_imul, f_idiv, f_irem, f_iand, f_ior, f_ixor, f_ishl, f_ishr, f_iushr, f_i2l, f_i2b, f_i2s, f_ladd, f_lmul, f_lcmp, f_dupI, f_dupR, f_dup2, f_pop, f_goto, f_if, f_icmp, f_tab, f_ts0, f_ts1, f_getI, f_getZ, f_getR, f_putI, f_putR, f_gets, f_iald, f_bald, f_aald, f_iast, f_bast, f_aast, f_alen, f_new, f_newa, f_anew, f_virt, f_stat0, f_stat1, f_spec0, f_spec1, f_spec9, f_copy, f_max, f_min, f_cV1, f_cV0, f_cS1, f_cS0, f_iret, f_lret, f_vret, f_kG, pf0, cIg, inR, lget, lset, lset2, clr, entL, cnd, psh, catS, tsw, List.take_succ_cons, List.take_zero, List.drop_succ_cons, List.drop_zero, List.reverse_cons, List.reverse_nil, List.nil_append, List.cons_append, List.length_cons, List.length_nil, List.replicate_succ, List.replicate_zero, Nat.reduceAdd, Nat.reduceSub, Nat.reduceLeDiff, Nat.reduceLT, Nat.reduceEqDiff, Nat.reduceMul, Nat.zero_add, Nat.add_zero, Nat.le_refl, Nat.zero_le, Int.reduceEq, Int.reduceToNat, Int.toNat_natCast, Int.reduceNeg, Int.reduceAdd, Int.reduceSub, Int.reduceMul, Int.reduceLT, Int.reduceLE, Int.reduceDiv, Int.reduceMod, Bool.false_eq_true, ↓reduceIte, true_and, and_true, implies_true, forall_const, true_or, or_true, or_false, false_or, not_true_eq_false, not_false_eq_true, false_implies, Prod.mk.injEq, Fin.val_zero, Fin.val_one, Fin.isValue, Fin.reduceFinMk, Fin.val_two, mR_uI, mK_uI, mN_uI, mI_uR, mK_uR, mN_uR, mR_uC, mK_uC, mN_uC, Option.some.injEq, Sum.inl.injEq, Sum.inr.injEq, decide_true, decide_false, Bool.or_false, Bool.false_or, Bool.or_true, Bool.true_or, Nat.reduceBEq, beq_self_eq_true, show tb 27 = tb_27 from rfl, tb_27, tb_27_0, tb_27_1, tb_27_2, pfb, pfb_b, pfb_c, pfb_v, pfa_b, pfa_c, pfa_v, g1, g3]
        refine ⟨rfl, (hS2.uI (Or.inr (Or.inl rfl)) _ _).uI (Or.inl (Or.inl rfl)) _ _, PL_nil, ?_, ?_⟩
        · rw [mI_uI_ne n1, mI_uI_eq]
        · rw [mI_uI_ne n1, mI_uI_nk (by omega), f1, hB1]
  refine Ev_of mcd_27 mok_27 (by decide) rfl (Nat.le_of_ble_eq_true rfl) ?_
  rw [show yl 27 = 5 from rfl]
  refine G_w (pfb_ok X) LK_27 (fun i => i == 14) 40 _ _ _ _ ?_
  simp only [f_0, f_s, f_iconst, f_bipush, f_sipush, f_ldc, f_ldc_w, f_ldc2_w, f_ldI, f_ldL, f_ldA, f_iload, f_iload_n, f_lload, f_lload_n, f_aload, f_aload_n, f_istore, f_istore_n, f_lstore, f_lstore_n, f_astore, f_astore_n, f_iinc, f_icI, f_iadd, f_isub, f_imul, f_idiv, f_irem, f_iand, f_ior, f_ixor, f_ishl, f_ishr, f_iushr, f_i2l, f_i2b, f_i2s, f_ladd, f_lmul, f_lcmp, f_dupI, f_dupR, f_dup2, f_pop, f_goto, f_if, f_icmp, f_tab, f_ts0, f_ts1, f_getI, f_getZ, f_getR, f_putI, f_putR, f_gets, f_iald, f_bald, f_aald, f_iast, f_bast, f_aast, f_alen, f_new, f_newa, f_anew, f_virt, f_stat0, f_stat1, f_spec0, f_spec1, f_spec9, f_copy, f_max, f_min, f_cV1, f_cV0, f_cS1, f_cS0, f_iret, f_lret, f_vret, f_kG, pf0, cIg, inR, lget, lset, lset2, clr, entL, cnd, psh, catS, tsw, List.take_succ_cons, List.take_zero, List.drop_succ_cons, List.drop_zero, List.reverse_cons, List.reverse_nil, List.nil_append, List.cons_append, List.length_cons, List.length_nil, List.replicate_succ, List.replicate_zero, Nat.reduceAdd, Nat.reduceSub, Nat.reduceLeDiff, Nat.reduceLT, Nat.reduceEqDiff, Nat.reduceMul, Nat.zero_add, Nat.add_zero, Nat.le_refl, Nat.zero_le, Int.reduceEq, Int.reduceToNat, Int.toNat_natCast, Int.reduceNeg, Int.reduceAdd, Int.reduceSub, Int.reduceMul, Int.reduceLT, Int.reduceLE, Int.reduceDiv, Int.reduceMod, Bool.false_eq_true, ↓reduceIte, true_and, and_true, implies_true, forall_const, true_or, or_true, or_false, false_or, not_true_eq_false, not_false_eq_true, false_implies, Prod.mk.injEq, Fin.val_zero, Fin.val_one, Fin.isValue, Fin.reduceFinMk, Fin.val_two, mR_uI, mK_uI, mN_uI, mI_uR, mK_uR, mN_uR, mR_uC, mK_uC, mN_uC, Option.some.injEq, Sum.inl.injEq, Sum.inr.injEq, decide_true, decide_false, Bool.or_false, Bool.false_or, Bool.or_true, Bool.true_or, Nat.reduceBEq, beq_self_eq_true, show tb 27 = tb_27 from rfl, tb_27, tb_27_0, tb_27_1, tb_27_2, pfb, pfb_b, pfb_c, pfb_v, pfa_b, pfa_c, pfa_v, a1, p1, k3]
  have hS1 : Same M (uI (uI (uI M p 2 0) a 2 (-1)) 3 0 0) (TR p a) := (((Same.rf M (TR p a)).uI (Or.inl (Or.inl rfl)) _ _).uI (Or.inr (Or.inl rfl)) _ _).uI (Or.inr (Or.inr rfl)) _ _
  have hs1 := hS1.shp hs hbs
  have hR1 : RD (uI (uI (uI M p 2 0) a 2 (-1)) 3 0 0) (0, mI (uI (uI (uI M p 2 0) a 2 (-1)) 3 0 0) 3 1, mI (uI (uI (uI M p 2 0) a 2 (-1)) 3 0 0) 3 2, mI (uI (uI (uI M p 2 0) a 2 (-1)) 3 0 0) 3 3, mI (uI (uI (uI M p 2 0) a 2 (-1)) 3 0 0) 3 4) := ⟨mI_uI_eq, rfl, rfl, rfl, rfl⟩
  refine Ev_mono (e_beginTerm X _ _ 0 hs1 hR1 (Or.inl rfl)) (fun r M2 hr _ _ => ?_)
  obtain ⟨rfl, w1, w2⟩ := hr
  simp only [f_kG, psh, Nat.reduceAdd]
  refine G_w (pfb_ok X) LK_27 (fun i => i == 14) 40 _ _ _ _ ?_
  simp only [f_0, f_s, f_iconst, f_bipush, f_sipush, f_ldc, f_ldc_w, f_ldc2_w, f_ldI, f_ldL, f_ldA, f_iload, f_iload_n, f_lload, f_lload_n, f_aload, f_aload_n, f_istore, f_istore_n, f_lstore, f_lstore_n, f_astore, f_astore_n, f_iinc, f_icI, f_iadd, f_isub, f_imul, f_idiv, f_irem, f_iand, f_ior, f_ixor, f_ishl, f_ishr, f_iushr, f_i2l, f_i2b, f_i2s, f_ladd, f_lmul, f_lcmp, f_dupI, f_dupR, f_dup2, f_pop, f_goto, f_if, f_icmp, f_tab, f_ts0, f_ts1, f_getI, f_getZ, f_getR, f_putI, f_putR, f_gets, f_iald, f_bald, f_aald, f_iast, f_bast, f_aast, f_alen, f_new, f_newa, f_anew, f_virt, f_stat0, f_stat1, f_spec0, f_spec1, f_spec9, f_copy, f_max, f_min, f_cV1, f_cV0, f_cS1, f_cS0, f_iret, f_lret, f_vret, f_kG, pf0, cIg, inR, lget, lset, lset2, clr, entL, cnd, psh, catS, tsw, List.take_succ_cons, List.take_zero, List.drop_succ_cons, List.drop_zero, List.reverse_cons, List.reverse_nil, List.nil_append, List.cons_append, List.length_cons, List.length_nil, List.replicate_succ, List.replicate_zero, Nat.reduceAdd, Nat.reduceSub, Nat.reduceLeDiff, Nat.reduceLT, Nat.reduceEqDiff, Nat.reduceMul, Nat.zero_add, Nat.add_zero, Nat.le_refl, Nat.zero_le, Int.reduceEq, Int.reduceToNat, Int.toNat_natCast, Int.reduceNeg, Int.reduceAdd, Int.reduceSub, Int.reduceMul, Int.reduceLT, Int.reduceLE, Int.reduceDiv, Int.reduceMod, Bool.false_eq_true, ↓reduceIte, true_and, and_true, implies_true, forall_const, true_or, or_true, or_false, false_or, not_true_eq_false, not_false_eq_true, false_implies, Prod.mk.injEq, Fin.val_zero, Fin.val_one, Fin.isValue, Fin.reduceFinMk, Fin.val_two, mR_uI, mK_uI, mN_uI, mI_uR, mK_uR, mN_uR, mR_uC, mK_uC, mN_uC, Option.some.injEq, Sum.inl.injEq, Sum.inr.injEq, decide_true, decide_false, Bool.or_false, Bool.false_or, Bool.or_true, Bool.true_or, Nat.reduceBEq, beq_self_eq_true, show tb 27 = tb_27 from rfl, tb_27, tb_27_0, tb_27_1, tb_27_2, pfb, pfb_b, pfb_c, pfb_v, pfa_b, pfa_c, pfa_v]
  unfold rdF
  rw [rdL_let o B 0 0 0 1 0 0 (mI (uI (uI (uI M p 2 0) a 2 (-1)) 3 0 0) 3 4) [] (by omega)]
  refine loop B 0 _ [] M2 rfl (by omega) (S3 hS1 w2) w1 ⟨by simp, Or.inl rfl, by simp, by unfold isPr; simp, fun h => by simp at h⟩ ?_ (fun t ht => by cases ht) (by simp) ?_ ?_
  · exact PL_same (PL_same (PL_same (S := fun x => x = a) PL_nil (fun x k hx => mI_uI_ne hx) (by omega) (by omega) (by omega)) (S := fun x => x = 3) (fun x k hx => mI_uI_ne hx) (by omega) (by omega) (by omega)) w2.2.2.2 (by omega) (by omega) (by omega)
  · rw [w2.2.2.2 a 1 (by omega), mI_uI_ne n5, mI_uI_nk (by omega), mI_uI_ne n1, hB1]
  · rw [w2.2.2.2 a 2 (by omega), mI_uI_ne n5, mI_uI_eq]
