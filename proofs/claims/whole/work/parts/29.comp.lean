/-! a completion's state; takeLowest -/
theorem erase_perm : ∀ (ps : List Nat) (k g : Nat), ps[k]? = some g → (g :: ps.eraseIdx k).Perm ps
  | [], k, g, h => by simp at h
  | a :: ps, 0, g, h => by
    simp only [List.getElem?_cons_zero, Option.some.injEq] at h
    subst h
    exact List.Perm.refl _
  | a :: ps, k + 1, g, h => by
    rw [List.getElem?_cons_succ] at h
    rw [List.eraseIdx_cons_succ]
    exact (List.Perm.swap a g _).trans ((erase_perm ps k g h).cons a)
theorem rot_perm {ps : List Nat} {k n g : Nat} (hg : ps[k]? = some g) (hk : k < n) (hn : n ≤ ps.length) : (rot ps k n).Perm ps := by
  have hlen : k < ps.length := (List.getElem?_eq_some_iff.mp hg).1
  unfold rot
  rw [hg]
  exact (List.perm_insertIdx g (ps.eraseIdx k) (by rw [List.length_eraseIdx, if_pos hlen]; omega)).trans (erase_perm ps k g hg)
/-- a row that holds polynomials -/
def PB (M : Mem) (r cap : Nat) (ps : List Nat) (pl : List Po) : Prop := RA M r cap ps ∧ mI M r 1 = pl.length ∧ pl.length ≤ cap ∧ ∀ (j : Nat) (L : Po), pl[j]? = some L → ∃ q, ps[j]? = some q ∧ PL M q L
theorem PL_same {M M' : Mem} {p : Nat} {L : Po} {S : Nat → Prop} (h : PL M p L) (hS : ∀ a k, ¬ S a → mI M' a k = mI M a k) (h0 : ¬ S p) (h1 : ¬ S (p + 1)) (h2 : ¬ S (p + 2)) : PL M' p L := by
  obtain ⟨l1, l2, l3⟩ := h
  refine ⟨(hS _ _ h0).trans l1, l2, fun k t ht => ?_⟩
  obtain ⟨e1, e2⟩ := l3 k t ht
  exact ⟨(hS _ _ h1).trans e1, (hS _ _ h2).trans e2⟩
theorem PA_smr {M M' : Mem} {p : Nat} {S R : Nat → Prop} (h : PA M p) (hS : Smr M M' S R) (h0 : ¬ R p) : PA M' p := by
  obtain ⟨p1, p2, p3, p4, p5, p6, p7⟩ := h
  exact ⟨(hS.1 _).trans p1, (hS.1 _).trans p2, (hS.1 _).trans p3, (hS.2.1 _).trans p4, (hS.2.1 _).trans p5, (hS.2.2.1 _ _ h0).trans p6, (hS.2.2.1 _ _ h0).trans p7⟩
theorem RA_smr {M M' : Mem} {r cap : Nat} {ps : List Nat} {S R : Nat → Prop} (h : RA M r cap ps) (hS : Smr M M' S R) (h0 : ¬ R r) (h1 : ¬ R (r + 1)) (hp : ∀ q ∈ ps, ¬ R q) : RA M' r cap ps := by
  obtain ⟨r1, r2, r3, r4, r5, r6, r7, r8⟩ := h
  exact ⟨(hS.1 _).trans r1, (hS.2.2.1 _ _ h0).trans r2, (hS.1 _).trans r3, (hS.2.1 _).trans r4, r5, fun j q hq => (hS.2.2.1 _ _ h1).trans (r6 j q hq), fun q hq => PA_smr (r7 q hq) hS (hp q hq), r8⟩
theorem RA_rot {M M' : Mem} {r cap k n g : Nat} {ps : List Nat} {S : Nat → Prop} (h : RA M r cap ps) (hg : ps[k]? = some g) (hk : k < n) (hn : n ≤ cap) (hS : Smr M M' S (fun a => a = r + 1)) (hp : ∀ q ∈ ps, q ≠ r + 1) (hm : ∀ j q, (rot ps k n)[j]? = some q → mR M' (r + 1) j = some q) : RA M' r cap (rot ps k n) := by
  obtain ⟨r1, r2, r3, r4, r5, r6, r7, r8⟩ := h
  have hpm := rot_perm hg hk (by omega)
  exact ⟨(hS.1 _).trans r1, (hS.2.2.1 _ _ (by omega)).trans r2, (hS.1 _).trans r3, (hS.2.1 _).trans r4, hpm.length_eq.trans r5, hm, fun q hq => PA_smr (r7 q (hpm.mem_iff.mp hq)) hS (hp q (hpm.mem_iff.mp hq)), hpm.nodup_iff.mpr r8⟩
/-- one is taken out of a row -/
theorem PB_rot {M M' : Mem} {r cap k g : Nat} {ps : List Nat} {pl : List Po} (h : PB M r cap ps pl) (hg : ps[k]? = some g) (hk : k < pl.length) (hS : Smr M M' (fun a => a = r) (fun a => a = r + 1)) (hp : ∀ q ∈ ps, q ≠ r + 1 ∧ r ≠ q ∧ r ≠ q + 1 ∧ r ≠ q + 2) (hm : ∀ j q, (rot ps k pl.length)[j]? = some q → mR M' (r + 1) j = some q) (hl : mI M' r 1 = (pl.length : Int) - 1) : PB M' r cap (rot ps k pl.length) (pl.eraseIdx k) := by
  obtain ⟨h1, h2, h3, h4⟩ := h
  have hle : (pl.eraseIdx k).length = pl.length - 1 := by rw [List.length_eraseIdx, if_pos hk]
  refine ⟨RA_rot h1 hg hk h3 hS (fun q hq => (hp q hq).1) hm, by rw [hl, hle]; omega, by omega, fun j L hj => ?_⟩
  have hj2 : j < pl.length - 1 := by rw [← hle]; exact (List.getElem?_eq_some_iff.mp hj).1
  rw [List.getElem?_eraseIdx] at hj
  rw [rot_get hg hk (by have := h1.2.2.2.2.1; omega)]
  by_cases hjk : j < k
  · rw [if_pos hjk] at hj ⊢
    obtain ⟨q, q1, q2⟩ := h4 j L hj
    obtain ⟨n1, n2, n3, n4⟩ := hp q (List.mem_of_getElem? q1)
    exact ⟨q, q1, PL_same q2 hS.2.2.2 (by omega) (by omega) (by omega)⟩
  · rw [if_neg hjk] at hj ⊢
    rw [if_pos hj2]
    obtain ⟨q, q1, q2⟩ := h4 (j + 1) L hj
    obtain ⟨n1, n2, n3, n4⟩ := hp q (List.mem_of_getElem? q1)
    exact ⟨q, q1, PL_same q2 hS.2.2.2 (by omega) (by omega) (by omega)⟩
theorem PB_same {M M' : Mem} {r cap : Nat} {ps : List Nat} {pl : List Po} {S : Nat → Prop} (h : PB M r cap ps pl) (hS : Same M M' S) (hr : ¬ S r) (hp : ∀ q ∈ ps, ¬ S q ∧ ¬ S (q + 1) ∧ ¬ S (q + 2)) : PB M' r cap ps pl := by
  obtain ⟨⟨r1, r2, r3, r4, r5, r6, r7, r8⟩, b1, b2, b3⟩ := h
  refine ⟨⟨(hS.1 _).trans r1, (hS.2.2.1 _ _).trans r2, (hS.1 _).trans r3, (hS.2.1 _).trans r4, r5, fun j q hq => (hS.2.2.1 _ _).trans (r6 j q hq), fun q hq => hS.pa (r7 q hq), r8⟩, (hS.2.2.2 _ _ hr).trans b1, b2, fun j b hb => ?_⟩
  obtain ⟨q, h1, h2⟩ := b3 j b hb
  obtain ⟨g1, g2, g3⟩ := hp q (List.mem_of_getElem? h1)
  exact ⟨q, h1, PL_same h2 hS.2.2.2 g1 g2 g3⟩
/-- which is the lowest -/
def lowF (o : Int) (pl : List Po) : Nat → Nat → Nat → Nat
  | 0, low, _ => low
  | k + 1, low, i => lowF o pl k (if rk o (hd (pl.getD i [])) < rk o (hd (pl.getD low [])) then i else low) (i + 1)
def lowI (o : Int) (pl : List Po) : Nat := lowF o pl (pl.length - 1) 0 1
theorem lowF_lt (o : Int) (pl : List Po) : ∀ (k low i : Nat), low < pl.length → i + k = pl.length → lowF o pl k low i < pl.length
  | 0, low, i, h, _ => h
  | k + 1, low, i, h, h2 => lowF_lt o pl k _ (i + 1) (by split <;> omega) (by omega)
theorem hd_pr {L : Po} (h : okP L) (hn : L ≠ []) : isPr (hd L) := by
  cases L with
  | nil => exact absurd rfl hn
  | cons x xs => exact (h x List.mem_cons_self).2
theorem getD_at {α : Type} {l : List α} {i : Nat} {d x : α} (h : l[i]? = some x) : l.getD i d = x := by
  rw [List.getD_eq_getElem?_getD, h]; rfl
set_option maxRecDepth 100000 in
set_option maxHeartbeats 4000000 in
theorem e_takeLowest (X : CX) (M : Mem) (c : Nat) (o : Int) (qs : List Nat) (pl : List Po) (hc : CA M c) (hcc : c = 361 ∨ c = 441) (ho : mI M c 4 = o) (ho2 : 0 ≤ o ∧ o ≤ 2) (ht : PA M (c + 75)) (hb : PB M 59 100 qs pl) (hok : ∀ L ∈ pl, okP L ∧ L ≠ []) (hqs : ∀ q ∈ qs, 61 ≤ q ∧ q ≤ 358) (hne : pl ≠ []) : Ev X y_Completion_takeLowest (0, 0) [aR (some c)] M (fun r M' => r = none ∧ PB M' 59 100 (rot qs (lowI o pl) pl.length) (pl.eraseIdx (lowI o pl)) ∧ PL M' (c + 75) (pl.getD (lowI o pl) []) ∧ Smr M M' (fun a => a = 59 ∨ T3 (c + 75) a) (fun a => a = 60)) := by
  have hlen : 0 < pl.length := List.length_pos_iff.mpr hne
  obtain ⟨hra, b1, b2, b3⟩ := hb
  have hb0 : PB M 59 100 qs pl := ⟨hra, b1, b2, b3⟩
  obtain ⟨c1, c2, c3, c4, c5, c6, c7, c8⟩ := hc
  have loop : ∀ (k low i : Nat), i + k = pl.length → low < pl.length → lowF o pl k low i = lowI o pl → G X y_Completion_takeLowest (mZ M, mS M, 0, 0) 4 [some (aR (some c)), some (aI low), some (aI i)] [] M (fun r M' => r = none ∧ PB M' 59 100 (rot qs (lowI o pl) pl.length) (pl.eraseIdx (lowI o pl)) ∧ PL M' (c + 75) (pl.getD (lowI o pl) []) ∧ Smr M M' (fun a => a = 59 ∨ T3 (c + 75) a) (fun a => a = 60)) := by
    intro k
    induction k with
    | zero =>
      intro low i hi hlow he
      have hlo : low = lowI o pl := he
      subst hlo
      obtain ⟨r1, r2, r3, r4, r5, r6, r7, r8⟩ := hra
      obtain ⟨q, q1, q2⟩ := b3 (lowI o pl) _ (List.getElem?_eq_getElem hlow)
      have q3 := r6 _ q q1
      have hin := hqs q (List.mem_of_getElem? q1)
      have hin2 := hlow
      refine G_w (pfb_ok X) LK_46 (fun i => i == 4) 20 _ _ _ _ ?_
      simp only [f_0, f_s, f_iconst, f_bipush, f_sipush, f_ldc, f_ldc_w, f_ldc2_w, f_ldI, f_ldL, f_ldA, f_iload, f_iload_n, f_lload, f_lload_n, f_aload, f_aload_n, f_istore, f_istore_n, f_lstore, f_lstore_n, f_astore, f_astore_n, f_iinc, f_icI, f_iadd, f_isub, f_imul, f_idiv, f_irem, f_iand, f_ior, f_ixor, f_ishl, f_ishr, f_iushr, f_i2l, f_i2b, f_i2s, f_ladd, f_lmul, f_lcmp, f_dupI, f_dupR, f_dup2, f_pop, f_goto, f_if, f_icmp, f_tab, f_ts0, f_ts1, f_getI, f_getZ, f_getR, f_putI, f_putR, f_gets, f_iald, f_bald, f_aald, f_iast, f_bast, f_aast, f_alen, f_new, f_newa, f_anew, f_virt, f_stat0, f_stat1, f_spec0, f_spec1, f_spec9, f_copy, f_max, f_min, f_cV1, f_cV0, f_cS1, f_cS0, f_iret, f_lret, f_vret, f_kG, pf0, cIg, inR, lget, lset, lset2, clr, entL, cnd, psh, catS, tsw, List.take_succ_cons, List.take_zero, List.drop_succ_cons, List.drop_zero, List.reverse_cons, List.reverse_nil, List.nil_append, List.cons_append, List.length_cons, List.length_nil, List.replicate_succ, List.replicate_zero, Nat.reduceAdd, Nat.reduceSub, Nat.reduceLeDiff, Nat.reduceLT, Nat.reduceEqDiff, Nat.reduceMul, Nat.zero_add, Nat.add_zero, Nat.le_refl, Nat.zero_le, Int.reduceEq, Int.reduceToNat, Int.toNat_natCast, Int.reduceNeg, Int.reduceAdd, Int.reduceSub, Int.reduceMul, Int.reduceLT, Int.reduceLE, Int.reduceDiv, Int.reduceMod, Bool.false_eq_true, ↓reduceIte, true_and, and_true, implies_true, forall_const, true_or, or_true, or_false, false_or, not_true_eq_false, not_false_eq_true, false_implies, Prod.mk.injEq, Fin.val_zero, Fin.val_one, Fin.isValue, Fin.reduceFinMk, Fin.val_two, mR_uI, mK_uI, mN_uI, mI_uR, mK_uR, mN_uR, mR_uC, mK_uC, mN_uC, Option.some.injEq, Sum.inl.injEq, Sum.inr.injEq, decide_true, decide_false, Bool.or_false, Bool.false_or, Bool.or_true, Bool.true_or, Nat.reduceBEq, beq_self_eq_true, show tb 46 = tb_46 from rfl, tb_46, tb_46_0, tb_46_1, pfb, pfb_b, pfb_c, pfb_v, pfa_b, pfa_c, pfa_v, c1, c3, c4, b1, r1, r2, r3, r4, q3, ht.1]
      (repeat' (first | with_reducible apply And.intro | with_reducible intro _)) <;> (try omega)
      refine Ev_mono (e_become X M (c + 75) q _ ht (r7 q (List.mem_of_getElem? q1)) (by omega) q2) (fun r M1 hr _ _ => ?_)
      obtain ⟨rfl, w1, -, -, w2⟩ := hr
      have hb1 := PB_same hb0 w2 (by unfold T3; omega) (fun q hq => by have := hqs q hq; unfold T3; omega)
      have k1 := (w2.1 c).trans c1
      have k3 := (w2.2.2.1 c 3).trans c3
      have k4 := hb1.1.1
      simp only [f_kG, psh, Nat.reduceAdd]
      refine G_w (pfb_ok X) LK_46 (fun i => i == 4) 20 _ _ _ _ ?_
      simp only [f_0, f_s, f_iconst, f_bipush, f_sipush, f_ldc, f_ldc_w, f_ldc2_w, f_ldI, f_ldL, f_ldA, f_iload, f_iload_n, f_lload, f_lload_n, f_aload, f_aload_n, f_istore, f_istore_n, f_lstore, f_lstore_n, f_astore, f_astore_n, f_iinc, f_icI, f_iadd, f_isub, f_imul, f_idiv, f_irem, f_iand, f_ior, f_ixor, f_ishl, f_ishr, f_iushr, f_i2l, f_i2b, f_i2s, f_ladd, f_lmul, f_lcmp, f_dupI, f_dupR, f_dup2, f_pop, f_goto, f_if, f_icmp, f_tab, f_ts0, f_ts1, f_getI, f_getZ, f_getR, f_putI, f_putR, f_gets, f_iald, f_bald, f_aald, f_iast, f_bast, f_aast, f_alen, f_new, f_newa, f_anew, f_virt, f_stat0, f_stat1, f_spec0, f_spec1, f_spec9, f_copy, f_max, f_min, f_cV1, f_cV0, f_cS1, f_cS0, f_iret, f_lret, f_vret, f_kG, pf0, cIg, inR, lget, lset, lset2, clr, entL, cnd, psh, catS, tsw, List.take_succ_cons, List.take_zero, List.drop_succ_cons, List.drop_zero, List.reverse_cons, List.reverse_nil, List.nil_append, List.cons_append, List.length_cons, List.length_nil, List.replicate_succ, List.replicate_zero, Nat.reduceAdd, Nat.reduceSub, Nat.reduceLeDiff, Nat.reduceLT, Nat.reduceEqDiff, Nat.reduceMul, Nat.zero_add, Nat.add_zero, Nat.le_refl, Nat.zero_le, Int.reduceEq, Int.reduceToNat, Int.toNat_natCast, Int.reduceNeg, Int.reduceAdd, Int.reduceSub, Int.reduceMul, Int.reduceLT, Int.reduceLE, Int.reduceDiv, Int.reduceMod, Bool.false_eq_true, ↓reduceIte, true_and, and_true, implies_true, forall_const, true_or, or_true, or_false, false_or, not_true_eq_false, not_false_eq_true, false_implies, Prod.mk.injEq, Fin.val_zero, Fin.val_one, Fin.isValue, Fin.reduceFinMk, Fin.val_two, mR_uI, mK_uI, mN_uI, mI_uR, mK_uR, mN_uR, mR_uC, mK_uC, mN_uC, Option.some.injEq, Sum.inl.injEq, Sum.inr.injEq, decide_true, decide_false, Bool.or_false, Bool.false_or, Bool.or_true, Bool.true_or, Nat.reduceBEq, beq_self_eq_true, show tb 46 = tb_46 from rfl, tb_46, tb_46_0, tb_46_1, pfb, pfb_b, pfb_c, pfb_v, pfa_b, pfa_c, pfa_v, k1, k3, k4]
      (repeat' (first | with_reducible apply And.intro | with_reducible intro _)) <;> (try omega)
      refine Ev_mono (e_remove X M1 59 100 pl.length (lowI o pl) qs hb1.1 hb1.2.1 hlow ⟨b2, Nat.le_refl _⟩) (fun r M2 hr _ _ => ?_)
      obtain ⟨rfl, x1, -, x3, x4⟩ := hr
      simp only [f_kG, psh, Nat.reduceAdd]
      refine G_w (pfb_ok X) LK_46 (fun i => i == 4) 20 _ _ _ _ ?_
      simp only [f_0, f_s, f_iconst, f_bipush, f_sipush, f_ldc, f_ldc_w, f_ldc2_w, f_ldI, f_ldL, f_ldA, f_iload, f_iload_n, f_lload, f_lload_n, f_aload, f_aload_n, f_istore, f_istore_n, f_lstore, f_lstore_n, f_astore, f_astore_n, f_iinc, f_icI, f_iadd, f_isub, f_imul, f_idiv, f_irem, f_iand, f_ior, f_ixor, f_ishl, f_ishr, f_iushr, f_i2l, f_i2b, f_i2s, f_ladd, f_lmul, f_lcmp, f_dupI, f_dupR, f_dup2, f_pop, f_goto, f_if, f_icmp, f_tab, f_ts0, f_ts1, f_getI, f_getZ, f_getR, f_putI, f_putR, f_gets, f_iald, f_bald, f_aald, f_iast, f_bast, f_aast, f_alen, f_new, f_newa, f_anew, f_virt, f_stat0, f_stat1, f_spec0, f_spec1, f_spec9, f_copy, f_max, f_min, f_cV1, f_cV0, f_cS1, f_cS0, f_iret, f_lret, f_vret, f_kG, pf0, cIg, inR, lget, lset, lset2, clr, entL, cnd, psh, catS, tsw, List.take_succ_cons, List.take_zero, List.drop_succ_cons, List.drop_zero, List.reverse_cons, List.reverse_nil, List.nil_append, List.cons_append, List.length_cons, List.length_nil, List.replicate_succ, List.replicate_zero, Nat.reduceAdd, Nat.reduceSub, Nat.reduceLeDiff, Nat.reduceLT, Nat.reduceEqDiff, Nat.reduceMul, Nat.zero_add, Nat.add_zero, Nat.le_refl, Nat.zero_le, Int.reduceEq, Int.reduceToNat, Int.toNat_natCast, Int.reduceNeg, Int.reduceAdd, Int.reduceSub, Int.reduceMul, Int.reduceLT, Int.reduceLE, Int.reduceDiv, Int.reduceMod, Bool.false_eq_true, ↓reduceIte, true_and, and_true, implies_true, forall_const, true_or, or_true, or_false, false_or, not_true_eq_false, not_false_eq_true, false_implies, Prod.mk.injEq, Fin.val_zero, Fin.val_one, Fin.isValue, Fin.reduceFinMk, Fin.val_two, mR_uI, mK_uI, mN_uI, mI_uR, mK_uR, mN_uR, mR_uC, mK_uC, mN_uC, Option.some.injEq, Sum.inl.injEq, Sum.inr.injEq, decide_true, decide_false, Bool.or_false, Bool.false_or, Bool.or_true, Bool.true_or, Nat.reduceBEq, beq_self_eq_true, show tb 46 = tb_46 from rfl, tb_46, tb_46_0, tb_46_1, pfb, pfb_b, pfb_c, pfb_v, pfa_b, pfa_c, pfa_v]
      refine ⟨PB_rot hb1 q1 hlow x4 (fun q hq => by have := hqs q hq; omega) x3 x1, ?_, ?_⟩
      · rw [List.getD_eq_getElem?_getD, List.getElem?_eq_getElem hlow]
        exact PL_same w1 x4.2.2.2 (by omega) (by omega) (by omega)
      · exact ⟨fun a => (x4.1 a).trans (w2.1 a), fun a => (x4.2.1 a).trans (w2.2.1 a), fun a k h => (x4.2.2.1 a k h).trans (w2.2.2.1 a k), fun a k h => (x4.2.2.2 a k (fun h9 => h (Or.inl h9))).trans (w2.2.2.2 a k (fun h9 => h (Or.inr h9)))⟩
    | succ k ih =>
      intro low i hi hlow he
      obtain ⟨q, q1, q2⟩ := b3 i _ (List.getElem?_eq_getElem (by omega))
      obtain ⟨p, p1, p2⟩ := b3 low _ (List.getElem?_eq_getElem hlow)
      have g1 := hok pl[i] (List.getElem_mem _)
      have g2 := hok pl[low] (List.getElem_mem _)
      have hi1 := hd_of q2 g1.2
      have hi2 := hd_of p2 g2.2
      have d1 := hd_pr g1.1 g1.2
      have d2 := hd_pr g2.1 g2.2
      have f1 : pl.getD i [] = pl[i] := getD_at (List.getElem?_eq_getElem (by omega))
      have f2 : pl.getD low [] = pl[low] := getD_at (List.getElem?_eq_getElem hlow)
      rw [lowF, f1, f2] at he
      refine G_w (pfb_ok X) LK_46 (fun i => i == 4) 10 _ _ _ _ ?_
      simp only [f_0, f_s, f_iconst, f_bipush, f_sipush, f_ldc, f_ldc_w, f_ldc2_w, f_ldI, f_ldL, f_ldA, f_iload, f_iload_n, f_lload, f_lload_n, f_aload, f_aload_n, f_istore, f_istore_n, f_lstore, f_lstore_n, f_astore, f_astore_n, f_iinc, f_icI, f_iadd, f_isub, f_imul, f_idiv, f_irem, f_iand, f_ior, f_ixor, f_ishl, f_ishr, f_iushr, f_i2l, f_i2b, f_i2s, f_ladd, f_lmul, f_lcmp, f_dupI, f_dupR, f_dup2, f_pop, f_goto, f_if, f_icmp, f_tab, f_ts0, f_ts1, f_getI, f_getZ, f_getR, f_putI, f_putR, f_gets, f_iald, f_bald, f_aald, f_iast, f_bast, f_aast, f_alen, f_new, f_newa, f_anew, f_virt, f_stat0, f_stat1, f_spec0, f_spec1, f_spec9, f_copy, f_max, f_min, f_cV1, f_cV0, f_cS1, f_cS0, f_iret, f_lret, f_vret, f_kG, pf0, cIg, inR, lget, lset, lset2, clr, entL, cnd, psh, catS, tsw, List.take_succ_cons, List.take_zero, List.drop_succ_cons, List.drop_zero, List.reverse_cons, List.reverse_nil, List.nil_append, List.cons_append, List.length_cons, List.length_nil, List.replicate_succ, List.replicate_zero, Nat.reduceAdd, Nat.reduceSub, Nat.reduceLeDiff, Nat.reduceLT, Nat.reduceEqDiff, Nat.reduceMul, Nat.zero_add, Nat.add_zero, Nat.le_refl, Nat.zero_le, Int.reduceEq, Int.reduceToNat, Int.toNat_natCast, Int.reduceNeg, Int.reduceAdd, Int.reduceSub, Int.reduceMul, Int.reduceLT, Int.reduceLE, Int.reduceDiv, Int.reduceMod, Bool.false_eq_true, ↓reduceIte, true_and, and_true, implies_true, forall_const, true_or, or_true, or_false, false_or, not_true_eq_false, not_false_eq_true, false_implies, Prod.mk.injEq, Fin.val_zero, Fin.val_one, Fin.isValue, Fin.reduceFinMk, Fin.val_two, mR_uI, mK_uI, mN_uI, mI_uR, mK_uR, mN_uR, mR_uC, mK_uC, mN_uC, Option.some.injEq, Sum.inl.injEq, Sum.inr.injEq, decide_true, decide_false, Bool.or_false, Bool.false_or, Bool.or_true, Bool.true_or, Nat.reduceBEq, beq_self_eq_true, show tb 46 = tb_46 from rfl, tb_46, tb_46_0, tb_46_1, pfb, pfb_b, pfb_c, pfb_v, pfa_b, pfa_c, pfa_v, c1, c3, b1, hra.1]
      refine ⟨fun h => by omega, fun _ => ?_⟩
      refine Ev_mono (e_head X M 59 100 i q qs hra q1) (fun r M1 hr _ _ => ?_)
      obtain ⟨rfl, rfl⟩ := hr
      rw [hi1, ho]
      simp only [f_kG, psh, Nat.reduceAdd]
      refine G_w (pfb_ok X) LK_46 (fun i => i == 4) 20 _ _ _ _ ?_
      simp only [f_0, f_s, f_iconst, f_bipush, f_sipush, f_ldc, f_ldc_w, f_ldc2_w, f_ldI, f_ldL, f_ldA, f_iload, f_iload_n, f_lload, f_lload_n, f_aload, f_aload_n, f_istore, f_istore_n, f_lstore, f_lstore_n, f_astore, f_astore_n, f_iinc, f_icI, f_iadd, f_isub, f_imul, f_idiv, f_irem, f_iand, f_ior, f_ixor, f_ishl, f_ishr, f_iushr, f_i2l, f_i2b, f_i2s, f_ladd, f_lmul, f_lcmp, f_dupI, f_dupR, f_dup2, f_pop, f_goto, f_if, f_icmp, f_tab, f_ts0, f_ts1, f_getI, f_getZ, f_getR, f_putI, f_putR, f_gets, f_iald, f_bald, f_aald, f_iast, f_bast, f_aast, f_alen, f_new, f_newa, f_anew, f_virt, f_stat0, f_stat1, f_spec0, f_spec1, f_spec9, f_copy, f_max, f_min, f_cV1, f_cV0, f_cS1, f_cS0, f_iret, f_lret, f_vret, f_kG, pf0, cIg, inR, lget, lset, lset2, clr, entL, cnd, psh, catS, tsw, List.take_succ_cons, List.take_zero, List.drop_succ_cons, List.drop_zero, List.reverse_cons, List.reverse_nil, List.nil_append, List.cons_append, List.length_cons, List.length_nil, List.replicate_succ, List.replicate_zero, Nat.reduceAdd, Nat.reduceSub, Nat.reduceLeDiff, Nat.reduceLT, Nat.reduceEqDiff, Nat.reduceMul, Nat.zero_add, Nat.add_zero, Nat.le_refl, Nat.zero_le, Int.reduceEq, Int.reduceToNat, Int.toNat_natCast, Int.reduceNeg, Int.reduceAdd, Int.reduceSub, Int.reduceMul, Int.reduceLT, Int.reduceLE, Int.reduceDiv, Int.reduceMod, Bool.false_eq_true, ↓reduceIte, true_and, and_true, implies_true, forall_const, true_or, or_true, or_false, false_or, not_true_eq_false, not_false_eq_true, false_implies, Prod.mk.injEq, Fin.val_zero, Fin.val_one, Fin.isValue, Fin.reduceFinMk, Fin.val_two, mR_uI, mK_uI, mN_uI, mI_uR, mK_uR, mN_uR, mR_uC, mK_uC, mN_uC, Option.some.injEq, Sum.inl.injEq, Sum.inr.injEq, decide_true, decide_false, Bool.or_false, Bool.false_or, Bool.or_true, Bool.true_or, Nat.reduceBEq, beq_self_eq_true, show tb 46 = tb_46 from rfl, tb_46, tb_46_0, tb_46_1, pfb, pfb_b, pfb_c, pfb_v, pfa_b, pfa_c, pfa_v, c1, c3, b1, hra.1, ho]
      refine ⟨d1, ?_⟩
      refine Ev_mono (e_head X M1 59 100 low p qs hra p1) (fun r M2 hr _ _ => ?_)
      obtain ⟨rfl, rfl⟩ := hr
      rw [hi2]
      simp only [f_kG, psh, Nat.reduceAdd]
      refine G_w (pfb_ok X) LK_46 (fun i => i == 4) 20 _ _ _ _ ?_
      simp only [f_0, f_s, f_iconst, f_bipush, f_sipush, f_ldc, f_ldc_w, f_ldc2_w, f_ldI, f_ldL, f_ldA, f_iload, f_iload_n, f_lload, f_lload_n, f_aload, f_aload_n, f_istore, f_istore_n, f_lstore, f_lstore_n, f_astore, f_astore_n, f_iinc, f_icI, f_iadd, f_isub, f_imul, f_idiv, f_irem, f_iand, f_ior, f_ixor, f_ishl, f_ishr, f_iushr, f_i2l, f_i2b, f_i2s, f_ladd, f_lmul, f_lcmp, f_dupI, f_dupR, f_dup2, f_pop, f_goto, f_if, f_icmp, f_tab, f_ts0, f_ts1, f_getI, f_getZ, f_getR, f_putI, f_putR, f_gets, f_iald, f_bald, f_aald, f_iast, f_bast, f_aast, f_alen, f_new, f_newa, f_anew, f_virt, f_stat0, f_stat1, f_spec0, f_spec1, f_spec9, f_copy, f_max, f_min, f_cV1, f_cV0, f_cS1, f_cS0, f_iret, f_lret, f_vret, f_kG, pf0, cIg, inR, lget, lset, lset2, clr, entL, cnd, psh, catS, tsw, List.take_succ_cons, List.take_zero, List.drop_succ_cons, List.drop_zero, List.reverse_cons, List.reverse_nil, List.nil_append, List.cons_append, List.length_cons, List.length_nil, List.replicate_succ, List.replicate_zero, Nat.reduceAdd, Nat.reduceSub, Nat.reduceLeDiff, Nat.reduceLT, Nat.reduceEqDiff, Nat.reduceMul, Nat.zero_add, Nat.add_zero, Nat.le_refl, Nat.zero_le, Int.reduceEq, Int.reduceToNat, Int.toNat_natCast, Int.reduceNeg, Int.reduceAdd, Int.reduceSub, Int.reduceMul, Int.reduceLT, Int.reduceLE, Int.reduceDiv, Int.reduceMod, Bool.false_eq_true, ↓reduceIte, true_and, and_true, implies_true, forall_const, true_or, or_true, or_false, false_or, not_true_eq_false, not_false_eq_true, false_implies, Prod.mk.injEq, Fin.val_zero, Fin.val_one, Fin.isValue, Fin.reduceFinMk, Fin.val_two, mR_uI, mK_uI, mN_uI, mI_uR, mK_uR, mN_uR, mR_uC, mK_uC, mN_uC, Option.some.injEq, Sum.inl.injEq, Sum.inr.injEq, decide_true, decide_false, Bool.or_false, Bool.false_or, Bool.or_true, Bool.true_or, Nat.reduceBEq, beq_self_eq_true, show tb 46 = tb_46 from rfl, tb_46, tb_46_0, tb_46_1, pfb, pfb_b, pfb_c, pfb_v, pfa_b, pfa_c, pfa_v]
      refine ⟨d2, fun h => ?_, fun h => ?_⟩
      · rw [if_neg (by omega)] at he
        exact ⟨by omega, ih low (i + 1) (by omega) hlow he⟩
      · rw [if_pos (by omega)] at he
        exact ⟨by omega, ih i (i + 1) (by omega) (by omega) he⟩
  refine Ev_of mcd_46 mok_46 (by decide) rfl (Nat.le_of_ble_eq_true rfl) ?_
  rw [show yl 46 = 3 from rfl]
  refine G_w (pfb_ok X) LK_46 (fun i => i == 4) 8 _ _ _ _ ?_
  simp only [f_0, f_s, f_iconst, f_bipush, f_sipush, f_ldc, f_ldc_w, f_ldc2_w, f_ldI, f_ldL, f_ldA, f_iload, f_iload_n, f_lload, f_lload_n, f_aload, f_aload_n, f_istore, f_istore_n, f_lstore, f_lstore_n, f_astore, f_astore_n, f_iinc, f_icI, f_iadd, f_isub, f_imul, f_idiv, f_irem, f_iand, f_ior, f_ixor, f_ishl, f_ishr, f_iushr, f_i2l, f_i2b, f_i2s, f_ladd, f_lmul, f_lcmp, f_dupI, f_dupR, f_dup2, f_pop, f_goto, f_if, f_icmp, f_tab, f_ts0, f_ts1, f_getI, f_getZ, f_getR, f_putI, f_putR, f_gets, f_iald, f_bald, f_aald, f_iast, f_bast, f_aast, f_alen, f_new, f_newa, f_anew, f_virt, f_stat0, f_stat1, f_spec0, f_spec1, f_spec9, f_copy, f_max, f_min, f_cV1, f_cV0, f_cS1, f_cS0, f_iret, f_lret, f_vret, f_kG, pf0, cIg, inR, lget, lset, lset2, clr, entL, cnd, psh, catS, tsw, List.take_succ_cons, List.take_zero, List.drop_succ_cons, List.drop_zero, List.reverse_cons, List.reverse_nil, List.nil_append, List.cons_append, List.length_cons, List.length_nil, List.replicate_succ, List.replicate_zero, Nat.reduceAdd, Nat.reduceSub, Nat.reduceLeDiff, Nat.reduceLT, Nat.reduceEqDiff, Nat.reduceMul, Nat.zero_add, Nat.add_zero, Nat.le_refl, Nat.zero_le, Int.reduceEq, Int.reduceToNat, Int.toNat_natCast, Int.reduceNeg, Int.reduceAdd, Int.reduceSub, Int.reduceMul, Int.reduceLT, Int.reduceLE, Int.reduceDiv, Int.reduceMod, Bool.false_eq_true, ↓reduceIte, true_and, and_true, implies_true, forall_const, true_or, or_true, or_false, false_or, not_true_eq_false, not_false_eq_true, false_implies, Prod.mk.injEq, Fin.val_zero, Fin.val_one, Fin.isValue, Fin.reduceFinMk, Fin.val_two, mR_uI, mK_uI, mN_uI, mI_uR, mK_uR, mN_uR, mR_uC, mK_uC, mN_uC, Option.some.injEq, Sum.inl.injEq, Sum.inr.injEq, decide_true, decide_false, Bool.or_false, Bool.false_or, Bool.or_true, Bool.true_or, Nat.reduceBEq, beq_self_eq_true, show tb 46 = tb_46 from rfl, tb_46, tb_46_0, tb_46_1, pfb, pfb_b, pfb_c, pfb_v, pfa_b, pfa_c, pfa_v]
  exact loop (pl.length - 1) 0 1 (by omega) hlen rfl
