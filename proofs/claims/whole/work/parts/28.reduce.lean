/-! Completion.reduce: the normal form -/
def ownB (q : Int) (bs : List Mb) : Option Mb := bs.find? (fun b => inC b.2.1 (hd b.1) q)
/-- the normal form from the place s on, at most so many turns -/
def nfF (o : Int) (bs : List Mb) : Nat → Nat → Po → Bool × Po
  | 0, _, L => (true, L)
  | k + 1, s, L => match L[s]? with
    | none => (true, L)
    | some t => match ownB t.2 bs with
      | none => nfF o bs k (s + 1) L
      | some b => if brs b.1 (t.2 - hd b.1) = true ∧ s + (mrg o (31 - t.1) (t.2 - hd b.1) (L.drop s) b.1).length ≤ 30 then nfF o bs k s (L.take s ++ mrg o (31 - t.1) (t.2 - hd b.1) (L.drop s) b.1) else (false, L)
theorem own_find (q : Int) : ∀ (bs : List Mb) (i : Nat), (ownF q bs i = -1 ∧ ownB q bs = none) ∨ ∃ (j : Nat) (b : Mb), ownF q bs i = (i + j : Nat) ∧ bs[j]? = some b ∧ ownB q bs = some b
  | [], i => Or.inl ⟨rfl, rfl⟩
  | b :: bs, i => by
    unfold ownF ownB
    by_cases h : inC b.2.1 (hd b.1) q = true
    · refine Or.inr ⟨0, b, ?_, rfl, ?_⟩
      · rw [if_pos h]; simp
      · rw [List.find?_cons]; simp [h]
    · rw [if_neg h, List.find?_cons]
      simp only [h]
      rcases own_find q bs (i + 1) with ⟨h1, h2⟩ | ⟨j, c, h1, h2, h3⟩
      · exact Or.inl ⟨h1, h2⟩
      · refine Or.inr ⟨j + 1, c, ?_, by simpa using h2, h3⟩
        rw [h1]; congr 1; omega
theorem cns_ok {s q : Int} {R : Po} (hs : 0 ≤ s ∧ s < 31) (hq : isPr q) (hR : okP R) : okP (cns s q R) := by
  unfold cns
  split
  · exact hR
  · intro t ht
    rcases List.mem_cons.mp ht with rfl | h
    · exact ⟨by simp only; omega, hq⟩
    · exact hR t h
theorem mod31 (a : Int) : 0 ≤ a % 31 ∧ a % 31 < 31 := ⟨Int.emod_nonneg a (by omega), Int.emod_lt_of_pos a (by omega)⟩
theorem mrg_ok (o n f : Int) (A B : Po) (hA : okP A) (hB : ∀ b ∈ B, isPr (b.2 + f)) : okP (mrg o n f A B) := by
  induction A, B using mrg.induct (o := o) (f := f) with
  | case1 => rw [mrg]; intro t ht; cases ht
  | case2 a A ih =>
    rw [mrg]
    intro t ht
    rcases List.mem_cons.mp ht with rfl | h
    · exact hA _ List.mem_cons_self
    · exact ih (fun t ht => hA t (List.mem_cons_of_mem _ ht)) hB t h
  | case3 b B ih => rw [mrg]; exact cns_ok (mod31 _) (hB b List.mem_cons_self) (ih hA (fun c hc => hB c (List.mem_cons_of_mem _ hc)))
  | case4 a A b B h ih =>
    rw [mrg, if_pos h]
    intro t ht
    rcases List.mem_cons.mp ht with rfl | h
    · exact hA _ List.mem_cons_self
    · exact ih (fun t ht => hA t (List.mem_cons_of_mem _ ht)) hB t h
  | case5 a A b B h h2 ih => rw [mrg, if_neg h, if_pos h2]; exact cns_ok (mod31 _) (hB b List.mem_cons_self) (ih hA (fun c hc => hB c (List.mem_cons_of_mem _ hc)))
  | case6 a A b B h h2 ih => rw [mrg, if_neg h, if_neg h2]; exact cns_ok (mod31 _) (hA a List.mem_cons_self).2 (ih (fun t ht => hA t (List.mem_cons_of_mem _ ht)) (fun c hc => hB c (List.mem_cons_of_mem _ hc)))
theorem inC_pr {g h q : Int} (hh : isPr h) (hq : isPr q) (hc : inC g h q = true) : isPr (q - h) := by
  simp only [inC, decide_eq_true_eq] at hc
  have dh := pr_dec hh; have dq := pr_dec hq
  have a0 := ex_b h 0; have a1 := ex_b h 1; have a2 := ex_b h 2; have q0 := ex_b q 0; have q1 := ex_b q 1; have q2 := ex_b q 2
  unfold isPr
  omega
theorem CB_same {M M' : Mem} {r cap : Nat} {ps : List Nat} {bs : List Mb} {S : Nat → Prop} (h : CB M r cap ps bs) (hS : Same M M' S) (hr : ¬ S r) (hp : ∀ q ∈ ps, ¬ S q ∧ ¬ S (q + 1) ∧ ¬ S (q + 2)) : CB M' r cap ps bs := by
  obtain ⟨⟨r1, r2, r3, r4, r5, r6, r7, r8⟩, b1, b2, b3⟩ := h
  refine ⟨⟨(hS.1 _).trans r1, (hS.2.2.1 _ _).trans r2, (hS.1 _).trans r3, (hS.2.1 _).trans r4, r5, fun j q hq => (hS.2.2.1 _ _).trans (r6 j q hq), fun q hq => hS.pa (r7 q hq), r8⟩, (hS.2.2.2 _ _ hr).trans b1, b2, fun j b hb => ?_⟩
  obtain ⟨q, h1, ⟨l1, l2, l3⟩, h3, h4⟩ := b3 j b hb
  obtain ⟨g1, g2, g3⟩ := hp q (List.mem_of_getElem? h1)
  refine ⟨q, h1, ⟨(hS.2.2.2 _ _ g1).trans l1, l2, fun k t ht => ?_⟩, (hS.2.2.2 _ _ g1).trans h3, (hS.2.2.2 _ _ g1).trans h4⟩
  obtain ⟨e1, e2⟩ := l3 k t ht
  exact ⟨(hS.2.2.2 _ _ g2).trans e1, (hS.2.2.2 _ _ g3).trans e2⟩
theorem Same.ext {M M' : Mem} {S : Nat → Prop} (h : Same M M' S) (hE : Ext M) (hb : ∀ a, BIG ≤ a → ¬ S a) : Ext M' := by
  unfold Ext at hE ⊢
  simp only [h.1, h.2.1]
  rw [h.2.2.2 BIG _ (hb _ (Nat.le_of_ble_eq_true rfl)), h.2.2.2 BIG _ (hb _ (Nat.le_of_ble_eq_true rfl)), h.2.2.2 BIG _ (hb _ (Nat.le_of_ble_eq_true rfl)), h.2.2.2 (BIG + 1) _ (hb _ (Nat.le_of_ble_eq_true rfl)), h.2.2.2 (BIG + 1) _ (hb _ (Nat.le_of_ble_eq_true rfl)), h.2.2.2 (BIG + 1) _ (hb _ (Nat.le_of_ble_eq_true rfl)), h.2.2.2 (BIG + 2) _ (hb _ (Nat.le_of_ble_eq_true rfl)), h.2.2.2 (BIG + 2) _ (hb _ (Nat.le_of_ble_eq_true rfl)), h.2.2.2 (BIG + 2) _ (hb _ (Nat.le_of_ble_eq_true rfl)), h.2.2.2 (BIG + 2) _ (hb _ (Nat.le_of_ble_eq_true rfl)), h.2.2.2 (BIG + 2) _ (hb _ (Nat.le_of_ble_eq_true rfl))]
  exact hE
theorem CA_same {M M' : Mem} {c : Nat} {S : Nat → Prop} (h : CA M c) (hS : Same M M' S) : CA M' c := by
  unfold CA at h ⊢
  simp only [hS.1, hS.2.1, hS.2.2.1]
  exact h
/-- how reduce ends -/
def RK (M : Mem) (p c : Nat) (res : Bool × Po) (r : Option AV) (M' : Mem) : Prop := Same M M' (TS p c) ∧ r = some (aI (if res.1 = true then 1 else 0)) ∧ (res.1 = true → PL M' p res.2)
set_option maxRecDepth 100000 in
set_option maxHeartbeats 4000000 in
theorem e_reduce (X : CX) (M : Mem) (c p : Nat) (o : Int) (L : Po) (ps : List Nat) (bs : List Mb) (hE : Ext M) (hc : CA M c) (ho : mI M c 4 = o) (hp : PA M p) (hcp : p ≠ c ∧ p ≠ c + 1 ∧ p + 2 < BIG ∧ c + 79 < BIG) (hkc1 : mK M (c + 1) = 4) (hd1 : far c p) (hL : PL M p L) (okL : okP L) (hb : CB M (c + 1) 24 ps bs) (hok : ∀ b ∈ bs, okM b) (hps : ∀ q ∈ ps, q ≠ p ∧ far c q) : Ev X y_Completion_reduce (0, 0) [aR (some c), aR (some p)] M (RK M p c (nfF o bs 32768 0 L)) := by
  have loop : ∀ (k s turn : Nat) (L1 : Po) (M1 : Mem) (v4 : Option AV), turn + k = 32768 → s ≤ L1.length → okP L1 → PL M1 p L1 → Same M M1 (TS p c) → G X y_Completion_reduce (mZ M, mS M, 0, 0) 4 [some (aR (some c)), some (aR (some p)), some (aI s), some (aI turn), v4] [] M1 (RK M p c (nfF o bs k s L1)) := by
    intro k
    induction k with
    | zero =>
      intro s turn L1 M1 v4 ht hs ok1 hL1 hS
      refine G_w (pfb_ok X) LK_49 (fun i => i == 4) 10 _ _ _ _ ?_
      simp only [f_0, f_s, f_iconst, f_bipush, f_sipush, f_ldc, f_ldc_w, f_ldc2_w, f_ldI, f_ldL, f_ldA, f_iload, f_iload_n, f_lload, f_lload_n, f_aload, f_aload_n, f_istore, f_istore_n, f_lstore, f_lstore_n, f_astore, f_astore_n, f_iinc, f_icI, f_iadd, f_isub, f_imul, f_idiv, f_irem, f_iand, f_ior, f_ixor, f_ishl, f_ishr, f_iushr, f_i2l, f_i2b, f_i2s, f_ladd, f_lmul, f_lcmp, f_dupI, f_dupR, f_dup2, f_pop, f_goto, f_if, f_icmp, f_tab, f_ts0, f_ts1, f_getI, f_getZ, f_getR, f_putI, f_putR, f_gets, f_iald, f_bald, f_aald, f_iast, f_bast, f_aast, f_alen, f_new, f_newa, f_anew, f_virt, f_stat0, f_stat1, f_spec0, f_spec1, f_spec9, f_copy, f_max, f_min, f_cV1, f_cV0, f_cS1, f_cS0, f_iret, f_lret, f_vret, f_kG, pf0, cIg, inR, lget, lset, lset2, clr, entL, cnd, psh, catS, tsw, List.take_succ_cons, List.take_zero, List.drop_succ_cons, List.drop_zero, List.reverse_cons, List.reverse_nil, List.nil_append, List.cons_append, List.length_cons, List.length_nil, List.replicate_succ, List.replicate_zero, Nat.reduceAdd, Nat.reduceSub, Nat.reduceLeDiff, Nat.reduceLT, Nat.reduceEqDiff, Nat.reduceMul, Nat.zero_add, Nat.add_zero, Nat.le_refl, Nat.zero_le, Int.reduceEq, Int.reduceToNat, Int.toNat_natCast, Int.reduceNeg, Int.reduceAdd, Int.reduceSub, Int.reduceMul, Int.reduceLT, Int.reduceLE, Int.reduceDiv, Int.reduceMod, Bool.false_eq_true, ↓reduceIte, true_and, and_true, implies_true, forall_const, true_or, or_true, or_false, false_or, not_true_eq_false, not_false_eq_true, false_implies, Prod.mk.injEq, Fin.val_zero, Fin.val_one, Fin.isValue, Fin.reduceFinMk, Fin.val_two, mR_uI, mK_uI, mN_uI, mI_uR, mK_uR, mN_uR, mR_uC, mK_uC, mN_uC, Option.some.injEq, Sum.inl.injEq, Sum.inr.injEq, decide_true, decide_false, Bool.or_false, Bool.false_or, Bool.or_true, Bool.true_or, Nat.reduceBEq, beq_self_eq_true, show tb 49 = tb_49 from rfl, tb_49, tb_49_0, tb_49_1, pfb, pfb_b, pfb_c, pfb_v, pfa_b, pfa_c, pfa_v]
      (repeat' (first | with_reducible apply And.intro | with_reducible intro _)) <;> (try omega)
      exact ⟨hS, rfl, fun _ => hL1⟩
    | succ k ih =>
      intro s turn L1 M1 v4 ht hs ok1 hL1 hS
      have hp1 := hS.pa hp
      have hp1' := hp1
      obtain ⟨p1, p2, p3, p4, p5, p6, p7⟩ := hp1
      have hlen := hL1.1
      have hl30 := hL1.2.1
      have hc1 := CA_same hc hS
      have hc1' := hc1
      obtain ⟨c1, c2, -⟩ := hc1
      have hE1 := hS.ext hE (fun a ha h9 => by
        rcases h9 with h9 | h9 | h9
        · unfold T3 at h9; omega
        · omega
        · omega)
      have hps2 : ∀ q ∈ ps, ¬ TS p c q ∧ ¬ TS p c (q + 1) ∧ ¬ TS p c (q + 2) := fun q hq => by
        obtain ⟨g1, g2⟩ := hps q hq
        have g3 := hp.apart (hb.1.2.2.2.2.2.2.1 q hq) g1
        unfold TS T3 far at *
        omega
      have hb1 := CB_same hb hS (by
        have h8 : mK M (p + 1) = 20 := hp.2.1
        have h7 : mK M (p + 2) = 20 := hp.2.2.1
        have n1 : c + 1 ≠ p + 1 := by omega
        have n2 : c + 1 ≠ p + 2 := fun e => by rw [e, h7] at hkc1; omega
        unfold TS T3
        omega) hps2
      cases hs9 : L1[s]? with
      | none =>
        have hse : s = L1.length := by
          have := List.getElem?_eq_none_iff.mp hs9
          omega
        have hn : nfF o bs (k + 1) s L1 = (true, L1) := by unfold nfF; rw [hs9]
        rw [hn]
        refine G_w (pfb_ok X) LK_49 (fun i => i == 4) 14 _ _ _ _ ?_
        simp only [f_0, f_s, f_iconst, f_bipush, f_sipush, f_ldc, f_ldc_w, f_ldc2_w, f_ldI, f_ldL, f_ldA, f_iload, f_iload_n, f_lload, f_lload_n, f_aload, f_aload_n, f_istore, f_istore_n, f_lstore, f_lstore_n, f_astore, f_astore_n, f_iinc, f_icI, f_iadd, f_isub, f_imul, f_idiv, f_irem, f_iand, f_ior, f_ixor, f_ishl, f_ishr, f_iushr, f_i2l, f_i2b, f_i2s, f_ladd, f_lmul, f_lcmp, f_dupI, f_dupR, f_dup2, f_pop, f_goto, f_if, f_icmp, f_tab, f_ts0, f_ts1, f_getI, f_getZ, f_getR, f_putI, f_putR, f_gets, f_iald, f_bald, f_aald, f_iast, f_bast, f_aast, f_alen, f_new, f_newa, f_anew, f_virt, f_stat0, f_stat1, f_spec0, f_spec1, f_spec9, f_copy, f_max, f_min, f_cV1, f_cV0, f_cS1, f_cS0, f_iret, f_lret, f_vret, f_kG, pf0, cIg, inR, lget, lset, lset2, clr, entL, cnd, psh, catS, tsw, List.take_succ_cons, List.take_zero, List.drop_succ_cons, List.drop_zero, List.reverse_cons, List.reverse_nil, List.nil_append, List.cons_append, List.length_cons, List.length_nil, List.replicate_succ, List.replicate_zero, Nat.reduceAdd, Nat.reduceSub, Nat.reduceLeDiff, Nat.reduceLT, Nat.reduceEqDiff, Nat.reduceMul, Nat.zero_add, Nat.add_zero, Nat.le_refl, Nat.zero_le, Int.reduceEq, Int.reduceToNat, Int.toNat_natCast, Int.reduceNeg, Int.reduceAdd, Int.reduceSub, Int.reduceMul, Int.reduceLT, Int.reduceLE, Int.reduceDiv, Int.reduceMod, Bool.false_eq_true, ↓reduceIte, true_and, and_true, implies_true, forall_const, true_or, or_true, or_false, false_or, not_true_eq_false, not_false_eq_true, false_implies, Prod.mk.injEq, Fin.val_zero, Fin.val_one, Fin.isValue, Fin.reduceFinMk, Fin.val_two, mR_uI, mK_uI, mN_uI, mI_uR, mK_uR, mN_uR, mR_uC, mK_uC, mN_uC, Option.some.injEq, Sum.inl.injEq, Sum.inr.injEq, decide_true, decide_false, Bool.or_false, Bool.false_or, Bool.or_true, Bool.true_or, Nat.reduceBEq, beq_self_eq_true, show tb 49 = tb_49 from rfl, tb_49, tb_49_0, tb_49_1, pfb, pfb_b, pfb_c, pfb_v, pfa_b, pfa_c, pfa_v, p1, hlen]
        (repeat' (first | with_reducible apply And.intro | with_reducible intro _)) <;> (try omega)
        all_goals exact ⟨hS, rfl, fun _ => hL1⟩
      | some t =>
        have hslt : s < L1.length := (List.getElem?_eq_some_iff.mp hs9).1
        have okt := ok1 t (List.mem_of_getElem? hs9)
        have yt := (hL1.2.2 s t hs9).2
        refine G_w (pfb_ok X) LK_49 (fun i => i == 4) 14 _ _ _ _ ?_
        simp only [f_0, f_s, f_iconst, f_bipush, f_sipush, f_ldc, f_ldc_w, f_ldc2_w, f_ldI, f_ldL, f_ldA, f_iload, f_iload_n, f_lload, f_lload_n, f_aload, f_aload_n, f_istore, f_istore_n, f_lstore, f_lstore_n, f_astore, f_astore_n, f_iinc, f_icI, f_iadd, f_isub, f_imul, f_idiv, f_irem, f_iand, f_ior, f_ixor, f_ishl, f_ishr, f_iushr, f_i2l, f_i2b, f_i2s, f_ladd, f_lmul, f_lcmp, f_dupI, f_dupR, f_dup2, f_pop, f_goto, f_if, f_icmp, f_tab, f_ts0, f_ts1, f_getI, f_getZ, f_getR, f_putI, f_putR, f_gets, f_iald, f_bald, f_aald, f_iast, f_bast, f_aast, f_alen, f_new, f_newa, f_anew, f_virt, f_stat0, f_stat1, f_spec0, f_spec1, f_spec9, f_copy, f_max, f_min, f_cV1, f_cV0, f_cS1, f_cS0, f_iret, f_lret, f_vret, f_kG, pf0, cIg, inR, lget, lset, lset2, clr, entL, cnd, psh, catS, tsw, List.take_succ_cons, List.take_zero, List.drop_succ_cons, List.drop_zero, List.reverse_cons, List.reverse_nil, List.nil_append, List.cons_append, List.length_cons, List.length_nil, List.replicate_succ, List.replicate_zero, Nat.reduceAdd, Nat.reduceSub, Nat.reduceLeDiff, Nat.reduceLT, Nat.reduceEqDiff, Nat.reduceMul, Nat.zero_add, Nat.add_zero, Nat.le_refl, Nat.zero_le, Int.reduceEq, Int.reduceToNat, Int.toNat_natCast, Int.reduceNeg, Int.reduceAdd, Int.reduceSub, Int.reduceMul, Int.reduceLT, Int.reduceLE, Int.reduceDiv, Int.reduceMod, Bool.false_eq_true, ↓reduceIte, true_and, and_true, implies_true, forall_const, true_or, or_true, or_false, false_or, not_true_eq_false, not_false_eq_true, false_implies, Prod.mk.injEq, Fin.val_zero, Fin.val_one, Fin.isValue, Fin.reduceFinMk, Fin.val_two, mR_uI, mK_uI, mN_uI, mI_uR, mK_uR, mN_uR, mR_uC, mK_uC, mN_uC, Option.some.injEq, Sum.inl.injEq, Sum.inr.injEq, decide_true, decide_false, Bool.or_false, Bool.false_or, Bool.or_true, Bool.true_or, Nat.reduceBEq, beq_self_eq_true, show tb 49 = tb_49 from rfl, tb_49, tb_49_0, tb_49_1, pfb, pfb_b, pfb_c, pfb_v, pfa_b, pfa_c, pfa_v, p1, p3, p5, p7, hlen, yt, c1]
        refine ⟨fun h => by omega, fun _ => ⟨fun h => by omega, fun _ => ⟨by omega, ?_⟩⟩⟩
        refine Ev_mono (e_ownerOf X M1 c t.2 ps bs hE1 ⟨c1, c2⟩ hb1 hok okt.2) (fun r M2 hr _ _ => ?_)
        obtain ⟨rfl, rfl⟩ := hr
        rcases own_find t.2 bs 0 with ⟨w1, w2⟩ | ⟨j, b, w1, w2, w3⟩
        · have hn : nfF o bs (k + 1) s L1 = nfF o bs k (s + 1) L1 := by rw [nfF, hs9]; simp only [w2]
          rw [w1, hn]
          simp only [f_kG, psh, Nat.reduceAdd]
          refine G_w (pfb_ok X) LK_49 (fun i => i == 4) 14 _ _ _ _ ?_
          simp only [f_0, f_s, f_iconst, f_bipush, f_sipush, f_ldc, f_ldc_w, f_ldc2_w, f_ldI, f_ldL, f_ldA, f_iload, f_iload_n, f_lload, f_lload_n, f_aload, f_aload_n, f_istore, f_istore_n, f_lstore, f_lstore_n, f_astore, f_astore_n, f_iinc, f_icI, f_iadd, f_isub, f_imul, f_idiv, f_irem, f_iand, f_ior, f_ixor, f_ishl, f_ishr, f_iushr, f_i2l, f_i2b, f_i2s, f_ladd, f_lmul, f_lcmp, f_dupI, f_dupR, f_dup2, f_pop, f_goto, f_if, f_icmp, f_tab, f_ts0, f_ts1, f_getI, f_getZ, f_getR, f_putI, f_putR, f_gets, f_iald, f_bald, f_aald, f_iast, f_bast, f_aast, f_alen, f_new, f_newa, f_anew, f_virt, f_stat0, f_stat1, f_spec0, f_spec1, f_spec9, f_copy, f_max, f_min, f_cV1, f_cV0, f_cS1, f_cS0, f_iret, f_lret, f_vret, f_kG, pf0, cIg, inR, lget, lset, lset2, clr, entL, cnd, psh, catS, tsw, List.take_succ_cons, List.take_zero, List.drop_succ_cons, List.drop_zero, List.reverse_cons, List.reverse_nil, List.nil_append, List.cons_append, List.length_cons, List.length_nil, List.replicate_succ, List.replicate_zero, Nat.reduceAdd, Nat.reduceSub, Nat.reduceLeDiff, Nat.reduceLT, Nat.reduceEqDiff, Nat.reduceMul, Nat.zero_add, Nat.add_zero, Nat.le_refl, Nat.zero_le, Int.reduceEq, Int.reduceToNat, Int.toNat_natCast, Int.reduceNeg, Int.reduceAdd, Int.reduceSub, Int.reduceMul, Int.reduceLT, Int.reduceLE, Int.reduceDiv, Int.reduceMod, Bool.false_eq_true, ↓reduceIte, true_and, and_true, implies_true, forall_const, true_or, or_true, or_false, false_or, not_true_eq_false, not_false_eq_true, false_implies, Prod.mk.injEq, Fin.val_zero, Fin.val_one, Fin.isValue, Fin.reduceFinMk, Fin.val_two, mR_uI, mK_uI, mN_uI, mI_uR, mK_uR, mN_uR, mR_uC, mK_uC, mN_uC, Option.some.injEq, Sum.inl.injEq, Sum.inr.injEq, decide_true, decide_false, Bool.or_false, Bool.false_or, Bool.or_true, Bool.true_or, Nat.reduceBEq, beq_self_eq_true, show tb 49 = tb_49 from rfl, tb_49, tb_49_0, tb_49_1, pfb, pfb_b, pfb_c, pfb_v, pfa_b, pfa_c, pfa_v]
          (repeat' (first | with_reducible apply And.intro | with_reducible intro _)) <;> (try omega)
          exact ih (s + 1) (turn + 1) L1 _ _ (by omega) (by omega) ok1 hL1 hS
        · have hsl : s + 1 ≤ 30 := by omega
          obtain ⟨⟨r1, r2, r3, r4, r5, r6, r7, r8⟩, n1, n2, n3⟩ := hb1
          obtain ⟨q, q1, q2, -, -⟩ := n3 j b w2
          have q3 := r6 j q q1
          have hjl : j < ps.length := (List.getElem?_eq_some_iff.mp q1).1
          have okb := hok b (List.mem_of_getElem? w2)
          have hin : inC b.2.1 (hd b.1) t.2 = true := List.find?_some (p := fun b : Mb => inC b.2.1 (hd b.1) t.2) w3
          have hhd : isPr (hd b.1) := by
            obtain ⟨o1, o2, -⟩ := okb
            cases hb9 : b.1 with
            | nil => exact absurd hb9 o2
            | cons x xs => exact (o1 x (by rw [hb9]; exact List.mem_cons_self)).2
          have hfp := inC_pr hhd okt.2 hin
          have ho1 : mI M2 c 4 = o := by
            rw [← ho]
            refine hS.2.2.2 _ _ ?_
            have h8 : mK M (p + 1) = 20 := hp.2.1
            have h7 : mK M (p + 2) = 20 := hp.2.2.1
            have h5 : mK M c = 5 := hc.1
            have n1 : c ≠ p + 1 := fun e => by rw [e, h8] at h5; omega
            have n2 : c ≠ p + 2 := fun e => by rw [e, h7] at h5; omega
            unfold TS T3
            omega
          rw [w1, Nat.zero_add]
          simp only [f_kG, psh, Nat.reduceAdd]
          refine G_w (pfb_ok X) LK_49 (fun i => i == 4) 18 _ _ _ _ ?_
          simp only [f_0, f_s, f_iconst, f_bipush, f_sipush, f_ldc, f_ldc_w, f_ldc2_w, f_ldI, f_ldL, f_ldA, f_iload, f_iload_n, f_lload, f_lload_n, f_aload, f_aload_n, f_istore, f_istore_n, f_lstore, f_lstore_n, f_astore, f_astore_n, f_iinc, f_icI, f_iadd, f_isub, f_imul, f_idiv, f_irem, f_iand, f_ior, f_ixor, f_ishl, f_ishr, f_iushr, f_i2l, f_i2b, f_i2s, f_ladd, f_lmul, f_lcmp, f_dupI, f_dupR, f_dup2, f_pop, f_goto, f_if, f_icmp, f_tab, f_ts0, f_ts1, f_getI, f_getZ, f_getR, f_putI, f_putR, f_gets, f_iald, f_bald, f_aald, f_iast, f_bast, f_aast, f_alen, f_new, f_newa, f_anew, f_virt, f_stat0, f_stat1, f_spec0, f_spec1, f_spec9, f_copy, f_max, f_min, f_cV1, f_cV0, f_cS1, f_cS0, f_iret, f_lret, f_vret, f_kG, pf0, cIg, inR, lget, lset, lset2, clr, entL, cnd, psh, catS, tsw, List.take_succ_cons, List.take_zero, List.drop_succ_cons, List.drop_zero, List.reverse_cons, List.reverse_nil, List.nil_append, List.cons_append, List.length_cons, List.length_nil, List.replicate_succ, List.replicate_zero, Nat.reduceAdd, Nat.reduceSub, Nat.reduceLeDiff, Nat.reduceLT, Nat.reduceEqDiff, Nat.reduceMul, Nat.zero_add, Nat.add_zero, Nat.le_refl, Nat.zero_le, Int.reduceEq, Int.reduceToNat, Int.toNat_natCast, Int.reduceNeg, Int.reduceAdd, Int.reduceSub, Int.reduceMul, Int.reduceLT, Int.reduceLE, Int.reduceDiv, Int.reduceMod, Bool.false_eq_true, ↓reduceIte, true_and, and_true, implies_true, forall_const, true_or, or_true, or_false, false_or, not_true_eq_false, not_false_eq_true, false_implies, Prod.mk.injEq, Fin.val_zero, Fin.val_one, Fin.isValue, Fin.reduceFinMk, Fin.val_two, mR_uI, mK_uI, mN_uI, mI_uR, mK_uR, mN_uR, mR_uC, mK_uC, mN_uC, Option.some.injEq, Sum.inl.injEq, Sum.inr.injEq, decide_true, decide_false, Bool.or_false, Bool.false_or, Bool.or_true, Bool.true_or, Nat.reduceBEq, beq_self_eq_true, show tb 49 = tb_49 from rfl, tb_49, tb_49_0, tb_49_1, pfb, pfb_b, pfb_c, pfb_v, pfa_b, pfa_c, pfa_v, c1, c2, r1, r2, r3, r4, q3]
          (repeat' (first | with_reducible apply And.intro | with_reducible intro _)) <;> (try omega)
          refine Ev_mono (e_takeAway X M2 c p q s o L1 b.1 t hE1 hc1' ho1 hp1' (r7 q (List.mem_of_getElem? q1)) hd1 (hps q (List.mem_of_getElem? q1)).2 hL1 q2 ok1 okb.1 okb.2.1 hs9 hfp) (fun r M3 hr _ _ => ?_)
          obtain ⟨hS3, ⟨rfl, x1, x2, x3⟩ | ⟨rfl, x1⟩⟩ := hr
          · have hn : nfF o bs (k + 1) s L1 = nfF o bs k s (L1.take s ++ mrg o (31 - t.1) (t.2 - hd b.1) (L1.drop s) b.1) := by rw [nfF, hs9]; simp only [w3]; rw [if_pos ⟨x1, x2⟩]
            rw [hn]
            simp only [f_kG, psh, Nat.reduceAdd]
            refine G_w (pfb_ok X) LK_49 (fun i => i == 4) 10 _ _ _ _ ?_
            simp only [f_0, f_s, f_iconst, f_bipush, f_sipush, f_ldc, f_ldc_w, f_ldc2_w, f_ldI, f_ldL, f_ldA, f_iload, f_iload_n, f_lload, f_lload_n, f_aload, f_aload_n, f_istore, f_istore_n, f_lstore, f_lstore_n, f_astore, f_astore_n, f_iinc, f_icI, f_iadd, f_isub, f_imul, f_idiv, f_irem, f_iand, f_ior, f_ixor, f_ishl, f_ishr, f_iushr, f_i2l, f_i2b, f_i2s, f_ladd, f_lmul, f_lcmp, f_dupI, f_dupR, f_dup2, f_pop, f_goto, f_if, f_icmp, f_tab, f_ts0, f_ts1, f_getI, f_getZ, f_getR, f_putI, f_putR, f_gets, f_iald, f_bald, f_aald, f_iast, f_bast, f_aast, f_alen, f_new, f_newa, f_anew, f_virt, f_stat0, f_stat1, f_spec0, f_spec1, f_spec9, f_copy, f_max, f_min, f_cV1, f_cV0, f_cS1, f_cS0, f_iret, f_lret, f_vret, f_kG, pf0, cIg, inR, lget, lset, lset2, clr, entL, cnd, psh, catS, tsw, List.take_succ_cons, List.take_zero, List.drop_succ_cons, List.drop_zero, List.reverse_cons, List.reverse_nil, List.nil_append, List.cons_append, List.length_cons, List.length_nil, List.replicate_succ, List.replicate_zero, Nat.reduceAdd, Nat.reduceSub, Nat.reduceLeDiff, Nat.reduceLT, Nat.reduceEqDiff, Nat.reduceMul, Nat.zero_add, Nat.add_zero, Nat.le_refl, Nat.zero_le, Int.reduceEq, Int.reduceToNat, Int.toNat_natCast, Int.reduceNeg, Int.reduceAdd, Int.reduceSub, Int.reduceMul, Int.reduceLT, Int.reduceLE, Int.reduceDiv, Int.reduceMod, Bool.false_eq_true, ↓reduceIte, true_and, and_true, implies_true, forall_const, true_or, or_true, or_false, false_or, not_true_eq_false, not_false_eq_true, false_implies, Prod.mk.injEq, Fin.val_zero, Fin.val_one, Fin.isValue, Fin.reduceFinMk, Fin.val_two, mR_uI, mK_uI, mN_uI, mI_uR, mK_uR, mN_uR, mR_uC, mK_uC, mN_uC, Option.some.injEq, Sum.inl.injEq, Sum.inr.injEq, decide_true, decide_false, Bool.or_false, Bool.false_or, Bool.or_true, Bool.true_or, Nat.reduceBEq, beq_self_eq_true, show tb 49 = tb_49 from rfl, tb_49, tb_49_0, tb_49_1, pfb, pfb_b, pfb_c, pfb_v, pfa_b, pfa_c, pfa_v]
            (repeat' (first | with_reducible apply And.intro | with_reducible intro _)) <;> (try omega)
            refine ih s (turn + 1) _ _ _ (by omega) ?_ ?_ x3 (hS.tr hS3)
            · rw [List.length_append, List.length_take]; omega
            · intro u hu
              rcases List.mem_append.mp hu with h | h
              · exact ok1 u (List.mem_of_mem_take h)
              · exact mrg_ok o _ _ _ _ (fun u hu => ok1 u (List.mem_of_mem_drop hu)) (brs_pr okb.1 hfp x1) u h
          · have hn : nfF o bs (k + 1) s L1 = (false, L1) := by
              rw [nfF, hs9]; simp only [w3]
              rw [if_neg]
              rintro ⟨y1, y2⟩
              rcases x1 with h | h
              · rw [y1] at h; cases h
              · omega
            rw [hn]
            simp only [f_kG, psh, Nat.reduceAdd]
            refine G_w (pfb_ok X) LK_49 (fun i => i == 4) 10 _ _ _ _ ?_
            simp only [f_0, f_s, f_iconst, f_bipush, f_sipush, f_ldc, f_ldc_w, f_ldc2_w, f_ldI, f_ldL, f_ldA, f_iload, f_iload_n, f_lload, f_lload_n, f_aload, f_aload_n, f_istore, f_istore_n, f_lstore, f_lstore_n, f_astore, f_astore_n, f_iinc, f_icI, f_iadd, f_isub, f_imul, f_idiv, f_irem, f_iand, f_ior, f_ixor, f_ishl, f_ishr, f_iushr, f_i2l, f_i2b, f_i2s, f_ladd, f_lmul, f_lcmp, f_dupI, f_dupR, f_dup2, f_pop, f_goto, f_if, f_icmp, f_tab, f_ts0, f_ts1, f_getI, f_getZ, f_getR, f_putI, f_putR, f_gets, f_iald, f_bald, f_aald, f_iast, f_bast, f_aast, f_alen, f_new, f_newa, f_anew, f_virt, f_stat0, f_stat1, f_spec0, f_spec1, f_spec9, f_copy, f_max, f_min, f_cV1, f_cV0, f_cS1, f_cS0, f_iret, f_lret, f_vret, f_kG, pf0, cIg, inR, lget, lset, lset2, clr, entL, cnd, psh, catS, tsw, List.take_succ_cons, List.take_zero, List.drop_succ_cons, List.drop_zero, List.reverse_cons, List.reverse_nil, List.nil_append, List.cons_append, List.length_cons, List.length_nil, List.replicate_succ, List.replicate_zero, Nat.reduceAdd, Nat.reduceSub, Nat.reduceLeDiff, Nat.reduceLT, Nat.reduceEqDiff, Nat.reduceMul, Nat.zero_add, Nat.add_zero, Nat.le_refl, Nat.zero_le, Int.reduceEq, Int.reduceToNat, Int.toNat_natCast, Int.reduceNeg, Int.reduceAdd, Int.reduceSub, Int.reduceMul, Int.reduceLT, Int.reduceLE, Int.reduceDiv, Int.reduceMod, Bool.false_eq_true, ↓reduceIte, true_and, and_true, implies_true, forall_const, true_or, or_true, or_false, false_or, not_true_eq_false, not_false_eq_true, false_implies, Prod.mk.injEq, Fin.val_zero, Fin.val_one, Fin.isValue, Fin.reduceFinMk, Fin.val_two, mR_uI, mK_uI, mN_uI, mI_uR, mK_uR, mN_uR, mR_uC, mK_uC, mN_uC, Option.some.injEq, Sum.inl.injEq, Sum.inr.injEq, decide_true, decide_false, Bool.or_false, Bool.false_or, Bool.or_true, Bool.true_or, Nat.reduceBEq, beq_self_eq_true, show tb 49 = tb_49 from rfl, tb_49, tb_49_0, tb_49_1, pfb, pfb_b, pfb_c, pfb_v, pfa_b, pfa_c, pfa_v]
            (repeat' (first | with_reducible apply And.intro | with_reducible intro _)) <;> (try omega)
            exact ⟨hS.tr hS3, rfl, fun h => by cases h⟩
  refine Ev_of mcd_49 mok_49 (by decide) rfl (Nat.le_of_ble_eq_true rfl) ?_
  rw [show yl 49 = 5 from rfl]
  refine G_w (pfb_ok X) LK_49 (fun i => i == 4) 8 _ _ _ _ ?_
  simp only [f_0, f_s, f_iconst, f_bipush, f_sipush, f_ldc, f_ldc_w, f_ldc2_w, f_ldI, f_ldL, f_ldA, f_iload, f_iload_n, f_lload, f_lload_n, f_aload, f_aload_n, f_istore, f_istore_n, f_lstore, f_lstore_n, f_astore, f_astore_n, f_iinc, f_icI, f_iadd, f_isub, f_imul, f_idiv, f_irem, f_iand, f_ior, f_ixor, f_ishl, f_ishr, f_iushr, f_i2l, f_i2b, f_i2s, f_ladd, f_lmul, f_lcmp, f_dupI, f_dupR, f_dup2, f_pop, f_goto, f_if, f_icmp, f_tab, f_ts0, f_ts1, f_getI, f_getZ, f_getR, f_putI, f_putR, f_gets, f_iald, f_bald, f_aald, f_iast, f_bast, f_aast, f_alen, f_new, f_newa, f_anew, f_virt, f_stat0, f_stat1, f_spec0, f_spec1, f_spec9, f_copy, f_max, f_min, f_cV1, f_cV0, f_cS1, f_cS0, f_iret, f_lret, f_vret, f_kG, pf0, cIg, inR, lget, lset, lset2, clr, entL, cnd, psh, catS, tsw, List.take_succ_cons, List.take_zero, List.drop_succ_cons, List.drop_zero, List.reverse_cons, List.reverse_nil, List.nil_append, List.cons_append, List.length_cons, List.length_nil, List.replicate_succ, List.replicate_zero, Nat.reduceAdd, Nat.reduceSub, Nat.reduceLeDiff, Nat.reduceLT, Nat.reduceEqDiff, Nat.reduceMul, Nat.zero_add, Nat.add_zero, Nat.le_refl, Nat.zero_le, Int.reduceEq, Int.reduceToNat, Int.toNat_natCast, Int.reduceNeg, Int.reduceAdd, Int.reduceSub, Int.reduceMul, Int.reduceLT, Int.reduceLE, Int.reduceDiv, Int.reduceMod, Bool.false_eq_true, ↓reduceIte, true_and, and_true, implies_true, forall_const, true_or, or_true, or_false, false_or, not_true_eq_false, not_false_eq_true, false_implies, Prod.mk.injEq, Fin.val_zero, Fin.val_one, Fin.isValue, Fin.reduceFinMk, Fin.val_two, mR_uI, mK_uI, mN_uI, mI_uR, mK_uR, mN_uR, mR_uC, mK_uC, mN_uC, Option.some.injEq, Sum.inl.injEq, Sum.inr.injEq, decide_true, decide_false, Bool.or_false, Bool.false_or, Bool.or_true, Bool.true_or, Nat.reduceBEq, beq_self_eq_true, show tb 49 = tb_49 from rfl, tb_49, tb_49_0, tb_49_1, pfb, pfb_b, pfb_c, pfb_v, pfa_b, pfa_c, pfa_v]
  exact loop 32768 0 0 L M none rfl (Nat.zero_le _) okL hL (Same.rf _ _)
