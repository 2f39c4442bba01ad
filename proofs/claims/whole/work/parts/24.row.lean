/-! rows of polynomials -/
/-- M' is M but for the ints of S and the references of R -/
def Smr (M M' : Mem) (S R : Nat → Prop) : Prop := (∀ a, mK M' a = mK M a) ∧ (∀ a, mN M' a = mN M a) ∧ (∀ a k, ¬ R a → mR M' a k = mR M a k) ∧ ∀ a k, ¬ S a → mI M' a k = mI M a k
theorem Smr.rf (M : Mem) (S R : Nat → Prop) : Smr M M S R := ⟨fun _ => rfl, fun _ => rfl, fun _ _ _ => rfl, fun _ _ _ => rfl⟩
theorem Smr.tr {M M1 M2 : Mem} {S R : Nat → Prop} (h : Smr M M1 S R) (h2 : Smr M1 M2 S R) : Smr M M2 S R := ⟨fun a => (h2.1 a).trans (h.1 a), fun a => (h2.2.1 a).trans (h.2.1 a), fun a k hr => (h2.2.2.1 a k hr).trans (h.2.2.1 a k hr), fun a k hs => (h2.2.2.2 a k hs).trans (h.2.2.2 a k hs)⟩
theorem Smr.w {M M1 : Mem} {S S' R R' : Nat → Prop} (h : Smr M M1 S R) (hs : ∀ a, S a → S' a) (hr : ∀ a, R a → R' a) : Smr M M1 S' R' := ⟨h.1, h.2.1, fun a k hn => h.2.2.1 a k (fun h9 => hn (hr a h9)), fun a k hn => h.2.2.2 a k (fun h9 => hn (hs a h9))⟩
theorem Same.smr {M M1 : Mem} {S : Nat → Prop} (h : Same M M1 S) (R : Nat → Prop) : Smr M M1 S R := ⟨h.1, h.2.1, fun a k _ => h.2.2.1 a k, h.2.2.2⟩
theorem Smr.uI {M M1 : Mem} {S R : Nat → Prop} (h : Smr M M1 S R) {a : Nat} (ha : S a) (k : Nat) (v : Int) : Smr M (uI M1 a k v) S R := ⟨h.1, h.2.1, h.2.2.1, fun b j hb => by rw [mI_uI, if_neg (c := b = a ∧ j = k) (fun h9 => hb (h9.1 ▸ ha))]; exact h.2.2.2 b j hb⟩
theorem Smr.uR {M M1 : Mem} {S R : Nat → Prop} (h : Smr M M1 S R) {a : Nat} (ha : R a) (k : Nat) (v : Option Nat) : Smr M (uR M1 a k v) S R := ⟨h.1, h.2.1, fun b j hb => by rw [mR_uR, if_neg (c := b = a ∧ j = k) (fun h9 => hb (h9.1 ▸ ha))]; exact h.2.2.1 b j hb, h.2.2.2⟩
theorem Smr.pa {M M' : Mem} {S R : Nat → Prop} (h : Smr M M' S R) {p : Nat} (hp : PA M p) (hr : ¬ R p) : PA M' p := by
  unfold PA at hp ⊢
  rw [h.1, h.1, h.1, h.2.1, h.2.1, h.2.2.1 p 0 hr, h.2.2.1 p 1 hr]
  exact hp
/-- a row's cells: its array holds these polynomials -/
def RA (M : Mem) (r cap : Nat) (ps : List Nat) : Prop := mK M r = 4 ∧ mR M r 0 = some (r + 1) ∧ mK M (r + 1) = 32 ∧ mN M (r + 1) = cap ∧ ps.length = cap ∧ (∀ j q, ps[j]? = some q → mR M (r + 1) j = some q) ∧ (∀ q, q ∈ ps → PA M q) ∧ ps.Nodup
set_option maxRecDepth 100000 in
set_option maxHeartbeats 4000000 in
theorem e_head (X : CX) (M : Mem) (r cap j q : Nat) (ps : List Nat) (hr : RA M r cap ps) (hq : ps[j]? = some q) : Ev X y_Row_head (0, 0) [aR (some r), aI j] M (fun r M' => r = some (aI (mI M (q + 2) 0)) ∧ M' = M) := by
  obtain ⟨r1, r2, r3, r4, r5, r6, r7, r8⟩ := hr
  have hj : j < ps.length := (List.getElem?_eq_some_iff.mp hq).1
  obtain ⟨p1, p2, p3, p4, p5, p6, p7⟩ := r7 q (List.mem_of_getElem? hq)
  have e1 := r6 j q hq
  refine Ev_of mcd_47 mok_47 (by decide) rfl (Nat.le_of_ble_eq_true rfl) ?_
  rw [show yl 47 = 2 from rfl]
  refine G_w (pfb_ok X) LK_47 (fun i => false) 20 _ _ _ _ ?_
  simp only [f_0, f_s, f_iconst, f_bipush, f_sipush, f_ldc, f_ldc_w, f_ldc2_w, f_ldI, f_ldL, f_ldA, f_iload, f_iload_n, f_lload, f_lload_n, f_aload, f_aload_n, f_istore, f_istore_n, f_lstore, f_lstore_n, f_astore, f_astore_n, f_iinc, f_icI, f_iadd, f_isub, f_imul, f_idiv, f_irem, f_iand, f_ior, f_ixor, f_ishl, f_ishr, f_iushr, f_i2l, f_i2b, f_i2s, f_ladd, f_lmul, f_lcmp, f_dupI, f_dupR, f_dup2, f_pop, f_goto, f_if, f_icmp, f_tab, f_ts0, f_ts1, f_getI, f_getZ, f_getR, f_putI, f_putR, f_gets, f_iald, f_bald, f_aald, f_iast, f_bast, f_aast, f_alen, f_new, f_newa, f_anew, f_virt, f_stat0, f_stat1, f_spec0, f_spec1, f_spec9, f_copy, f_max, f_min, f_cV1, f_cV0, f_cS1, f_cS0, f_iret, f_lret, f_vret, f_kG, pf0, cIg, inR, lget, lset, lset2, clr, entL, cnd, psh, catS, tsw, List.take_succ_cons, List.take_zero, List.drop_succ_cons, List.drop_zero, List.reverse_cons, List.reverse_nil, List.nil_append, List.cons_append, List.length_cons, List.length_nil, List.replicate_succ, List.replicate_zero, Nat.reduceAdd, Nat.reduceSub, Nat.reduceLeDiff, Nat.reduceLT, Nat.reduceEqDiff, Nat.reduceMul, Nat.zero_add, Nat.add_zero, Nat.le_refl, Nat.zero_le, Int.reduceEq, Int.reduceToNat, Int.toNat_natCast, Int.reduceNeg, Int.reduceAdd, Int.reduceSub, Int.reduceMul, Int.reduceLT, Int.reduceLE, Int.reduceDiv, Int.reduceMod, Bool.false_eq_true, ↓reduceIte, true_and, and_true, implies_true, forall_const, true_or, or_true, or_false, false_or, not_true_eq_false, not_false_eq_true, false_implies, Prod.mk.injEq, Fin.val_zero, Fin.val_one, Fin.isValue, Fin.reduceFinMk, Fin.val_two, mR_uI, mK_uI, mN_uI, mI_uR, mK_uR, mN_uR, mR_uC, mK_uC, mN_uC, Option.some.injEq, Sum.inl.injEq, Sum.inr.injEq, decide_true, decide_false, Bool.or_false, Bool.false_or, Bool.or_true, Bool.true_or, Nat.reduceBEq, beq_self_eq_true, show tb 47 = tb_47 from rfl, tb_47, tb_47_0, pfb, pfb_b, pfb_c, pfb_v, pfa_b, pfa_c, pfa_v, r1, r2, r3, r4, e1, p1, p3, p5, p7]
  omega
set_option maxRecDepth 100000 in
set_option maxHeartbeats 4000000 in
theorem e_rappend (X : CX) (M : Mem) (r cap n q : Nat) (ps : List Nat) (L : Po) (hr : RA M r cap ps) (hn : mI M r 1 = n) (hc : n ≤ cap ∧ cap ≤ 100) (hq : PA M q) (hL : PL M q L) (hne : q ∉ ps) (hr2 : ∀ t, ps[n]? = some t → r ≠ t ∧ r ≠ t + 1 ∧ r ≠ t + 2) : Ev X y_Row_append (0, 0) [aR (some r), aR (some q)] M (fun x M' => (n = cap ∧ x = some (aI 0) ∧ M' = M) ∨ (∃ t, ps[n]? = some t ∧ x = some (aI 1) ∧ mI M' r 1 = n + 1 ∧ PL M' t L ∧ mI M' t 3 = 0 ∧ mI M' t 4 = 0 ∧ Same M M' (fun a => a = r ∨ T3 t a))) := by
  have hr0 := hr
  obtain ⟨r1, r2, r3, r4, r5, r6, r7, r8⟩ := hr
  by_cases hlt : n < cap
  · obtain ⟨t, ht⟩ : ∃ t, ps[n]? = some t := ⟨_, List.getElem?_eq_getElem (by omega)⟩
    have e1 := r6 n t ht
    have hpt := r7 t (List.mem_of_getElem? ht)
    have hk2 := hpt.1
    have hne2 : q ≠ t := fun h => hne (h ▸ List.mem_of_getElem? ht)
    refine Ev_of mcd_44 mok_44 (by decide) rfl (Nat.le_of_ble_eq_true rfl) ?_
    rw [show yl 44 = 2 from rfl]
    refine G_w (pfb_ok X) LK_44 (fun i => false) 20 _ _ _ _ ?_
    simp only [f_0, f_s, f_iconst, f_bipush, f_sipush, f_ldc, f_ldc_w, f_ldc2_w, f_ldI, f_ldL, f_ldA, f_iload, f_iload_n, f_lload, f_lload_n, f_aload, f_aload_n, f_istore, f_istore_n, f_lstore, f_lstore_n, f_astore, f_astore_n, f_iinc, f_icI, f_iadd, f_isub, f_imul, f_idiv, f_irem, f_iand, f_ior, f_ixor, f_ishl, f_ishr, f_iushr, f_i2l, f_i2b, f_i2s, f_ladd, f_lmul, f_lcmp, f_dupI, f_dupR, f_dup2, f_pop, f_goto, f_if, f_icmp, f_tab, f_ts0, f_ts1, f_getI, f_getZ, f_getR, f_putI, f_putR, f_gets, f_iald, f_bald, f_aald, f_iast, f_bast, f_aast, f_alen, f_new, f_newa, f_anew, f_virt, f_stat0, f_stat1, f_spec0, f_spec1, f_spec9, f_copy, f_max, f_min, f_cV1, f_cV0, f_cS1, f_cS0, f_iret, f_lret, f_vret, f_kG, pf0, cIg, inR, lget, lset, lset2, clr, entL, cnd, psh, catS, tsw, List.take_succ_cons, List.take_zero, List.drop_succ_cons, List.drop_zero, List.reverse_cons, List.reverse_nil, List.nil_append, List.cons_append, List.length_cons, List.length_nil, List.replicate_succ, List.replicate_zero, Nat.reduceAdd, Nat.reduceSub, Nat.reduceLeDiff, Nat.reduceLT, Nat.reduceEqDiff, Nat.reduceMul, Nat.zero_add, Nat.add_zero, Nat.le_refl, Nat.zero_le, Int.reduceEq, Int.reduceToNat, Int.toNat_natCast, Int.reduceNeg, Int.reduceAdd, Int.reduceSub, Int.reduceMul, Int.reduceLT, Int.reduceLE, Int.reduceDiv, Int.reduceMod, Bool.false_eq_true, ↓reduceIte, true_and, and_true, implies_true, forall_const, true_or, or_true, or_false, false_or, not_true_eq_false, not_false_eq_true, false_implies, Prod.mk.injEq, Fin.val_zero, Fin.val_one, Fin.isValue, Fin.reduceFinMk, Fin.val_two, mR_uI, mK_uI, mN_uI, mI_uR, mK_uR, mN_uR, mR_uC, mK_uC, mN_uC, Option.some.injEq, Sum.inl.injEq, Sum.inr.injEq, decide_true, decide_false, Bool.or_false, Bool.false_or, Bool.or_true, Bool.true_or, Nat.reduceBEq, beq_self_eq_true, show tb 44 = tb_44 from rfl, tb_44, tb_44_0, pfb, pfb_b, pfb_c, pfb_v, pfa_b, pfa_c, pfa_v, r1, r2, r3, r4, e1, hn, hk2]
    refine ⟨fun _ => ⟨⟨by omega, by omega⟩, Ev_mono (e_become X M t q L hpt hq hne2 hL) (fun x M' hx hz hs => ?_)⟩, fun h => by omega⟩
    obtain ⟨rfl, h1, h2, h3, h4⟩ := hx
    obtain ⟨g1, g2, g3⟩ := hr2 t ht
    have f1 := (h4.1 r).trans r1
    have f2 := (h4.2.2.2 r 1 (by unfold T3; omega)).trans hn
    simp only [f_kG, psh, Nat.reduceAdd]
    refine G_w (pfb_ok X) LK_44 (fun i => false) 20 _ _ _ _ ?_
    simp only [f_0, f_s, f_iconst, f_bipush, f_sipush, f_ldc, f_ldc_w, f_ldc2_w, f_ldI, f_ldL, f_ldA, f_iload, f_iload_n, f_lload, f_lload_n, f_aload, f_aload_n, f_istore, f_istore_n, f_lstore, f_lstore_n, f_astore, f_astore_n, f_iinc, f_icI, f_iadd, f_isub, f_imul, f_idiv, f_irem, f_iand, f_ior, f_ixor, f_ishl, f_ishr, f_iushr, f_i2l, f_i2b, f_i2s, f_ladd, f_lmul, f_lcmp, f_dupI, f_dupR, f_dup2, f_pop, f_goto, f_if, f_icmp, f_tab, f_ts0, f_ts1, f_getI, f_getZ, f_getR, f_putI, f_putR, f_gets, f_iald, f_bald, f_aald, f_iast, f_bast, f_aast, f_alen, f_new, f_newa, f_anew, f_virt, f_stat0, f_stat1, f_spec0, f_spec1, f_spec9, f_copy, f_max, f_min, f_cV1, f_cV0, f_cS1, f_cS0, f_iret, f_lret, f_vret, f_kG, pf0, cIg, inR, lget, lset, lset2, clr, entL, cnd, psh, catS, tsw, List.take_succ_cons, List.take_zero, List.drop_succ_cons, List.drop_zero, List.reverse_cons, List.reverse_nil, List.nil_append, List.cons_append, List.length_cons, List.length_nil, List.replicate_succ, List.replicate_zero, Nat.reduceAdd, Nat.reduceSub, Nat.reduceLeDiff, Nat.reduceLT, Nat.reduceEqDiff, Nat.reduceMul, Nat.zero_add, Nat.add_zero, Nat.le_refl, Nat.zero_le, Int.reduceEq, Int.reduceToNat, Int.toNat_natCast, Int.reduceNeg, Int.reduceAdd, Int.reduceSub, Int.reduceMul, Int.reduceLT, Int.reduceLE, Int.reduceDiv, Int.reduceMod, Bool.false_eq_true, ↓reduceIte, true_and, and_true, implies_true, forall_const, true_or, or_true, or_false, false_or, not_true_eq_false, not_false_eq_true, false_implies, Prod.mk.injEq, Fin.val_zero, Fin.val_one, Fin.isValue, Fin.reduceFinMk, Fin.val_two, mR_uI, mK_uI, mN_uI, mI_uR, mK_uR, mN_uR, mR_uC, mK_uC, mN_uC, Option.some.injEq, Sum.inl.injEq, Sum.inr.injEq, decide_true, decide_false, Bool.or_false, Bool.false_or, Bool.or_true, Bool.true_or, Nat.reduceBEq, beq_self_eq_true, show tb 44 = tb_44 from rfl, tb_44, tb_44_0, pfb, pfb_b, pfb_c, pfb_v, pfa_b, pfa_c, pfa_v, f1, f2]
    refine ⟨by omega, Or.inr ⟨t, ht, mI_uI_eq, ?_, by rw [mI_uI_ne (by omega)]; exact h2, by rw [mI_uI_ne (by omega)]; exact h3, Same.uI (S := fun a => a = r ∨ T3 t a) (h4.w (fun a h => Or.inr h)) (Or.inl rfl) _ _⟩⟩
    obtain ⟨a1, a2, a3⟩ := h1
    exact ⟨by rw [mI_uI_ne (by omega)]; exact a1, a2, fun j u hu => by rw [mI_uI_ne (by omega), mI_uI_ne (by omega)]; exact a3 j u hu⟩
  · refine Ev_of mcd_44 mok_44 (by decide) rfl (Nat.le_of_ble_eq_true rfl) ?_
    rw [show yl 44 = 2 from rfl]
    refine G_w (pfb_ok X) LK_44 (fun i => false) 20 _ _ _ _ ?_
    simp only [f_0, f_s, f_iconst, f_bipush, f_sipush, f_ldc, f_ldc_w, f_ldc2_w, f_ldI, f_ldL, f_ldA, f_iload, f_iload_n, f_lload, f_lload_n, f_aload, f_aload_n, f_istore, f_istore_n, f_lstore, f_lstore_n, f_astore, f_astore_n, f_iinc, f_icI, f_iadd, f_isub, f_imul, f_idiv, f_irem, f_iand, f_ior, f_ixor, f_ishl, f_ishr, f_iushr, f_i2l, f_i2b, f_i2s, f_ladd, f_lmul, f_lcmp, f_dupI, f_dupR, f_dup2, f_pop, f_goto, f_if, f_icmp, f_tab, f_ts0, f_ts1, f_getI, f_getZ, f_getR, f_putI, f_putR, f_gets, f_iald, f_bald, f_aald, f_iast, f_bast, f_aast, f_alen, f_new, f_newa, f_anew, f_virt, f_stat0, f_stat1, f_spec0, f_spec1, f_spec9, f_copy, f_max, f_min, f_cV1, f_cV0, f_cS1, f_cS0, f_iret, f_lret, f_vret, f_kG, pf0, cIg, inR, lget, lset, lset2, clr, entL, cnd, psh, catS, tsw, List.take_succ_cons, List.take_zero, List.drop_succ_cons, List.drop_zero, List.reverse_cons, List.reverse_nil, List.nil_append, List.cons_append, List.length_cons, List.length_nil, List.replicate_succ, List.replicate_zero, Nat.reduceAdd, Nat.reduceSub, Nat.reduceLeDiff, Nat.reduceLT, Nat.reduceEqDiff, Nat.reduceMul, Nat.zero_add, Nat.add_zero, Nat.le_refl, Nat.zero_le, Int.reduceEq, Int.reduceToNat, Int.toNat_natCast, Int.reduceNeg, Int.reduceAdd, Int.reduceSub, Int.reduceMul, Int.reduceLT, Int.reduceLE, Int.reduceDiv, Int.reduceMod, Bool.false_eq_true, ↓reduceIte, true_and, and_true, implies_true, forall_const, true_or, or_true, or_false, false_or, not_true_eq_false, not_false_eq_true, false_implies, Prod.mk.injEq, Fin.val_zero, Fin.val_one, Fin.isValue, Fin.reduceFinMk, Fin.val_two, mR_uI, mK_uI, mN_uI, mI_uR, mK_uR, mN_uR, mR_uC, mK_uC, mN_uC, Option.some.injEq, Sum.inl.injEq, Sum.inr.injEq, decide_true, decide_false, Bool.or_false, Bool.false_or, Bool.or_true, Bool.true_or, Nat.reduceBEq, beq_self_eq_true, show tb 44 = tb_44 from rfl, tb_44, tb_44_0, pfb, pfb_b, pfb_c, pfb_v, pfa_b, pfa_c, pfa_v, r1, r2, r3, r4, hn]
    exact ⟨fun h => by omega, fun _ => Or.inl (by omega)⟩
/-- the one at k goes behind the others of the first n -/
def rot (ps : List Nat) (k n : Nat) : List Nat := match ps[k]? with
  | some g => (ps.eraseIdx k).insertIdx (n - 1) g
  | none => ps
theorem rot_get {ps : List Nat} {k n g : Nat} (hg : ps[k]? = some g) (hk : k < n) (hn : n ≤ ps.length) (j : Nat) : (rot ps k n)[j]? = if j < k then ps[j]? else if j < n - 1 then ps[j + 1]? else if j = n - 1 then some g else ps[j]? := by
  have hlen : k < ps.length := (List.getElem?_eq_some_iff.mp hg).1
  unfold rot
  rw [hg]
  simp only [List.getElem?_insertIdx, List.getElem?_eraseIdx, List.length_eraseIdx, if_pos hlen]
  by_cases h1 : j < k
  · rw [if_pos h1, if_pos h1, if_pos (by omega)]
  · rw [if_neg h1]
    by_cases h2 : j < n - 1
    · rw [if_pos h2, if_neg h1, if_pos h2]
    · rw [if_neg h2, if_neg h2]
      by_cases h3 : j = n - 1
      · rw [if_pos h3, if_pos h3, if_pos (by omega), if_neg h1]
      · rw [if_neg h3, if_neg h3, if_neg (by omega), show j - 1 + 1 = j by omega, if_neg h1]
set_option maxRecDepth 100000 in
set_option maxHeartbeats 4000000 in
theorem e_remove (X : CX) (M : Mem) (r cap n k : Nat) (ps : List Nat) (hr : RA M r cap ps) (hn : mI M r 1 = n) (hk : k < n) (hc : n ≤ cap ∧ cap ≤ 100) : Ev X y_Row_remove (0, 0) [aR (some r), aI k] M (fun x M' => x = none ∧ mI M' r 1 = (n : Int) - 1 ∧ mI M' r 0 = mI M r 0 ∧ (∀ j q, (rot ps k n)[j]? = some q → mR M' (r + 1) j = some q) ∧ Smr M M' (fun a => a = r) (fun a => a = r + 1)) := by
  obtain ⟨r1, r2, r3, r4, r5, r6, r7, r8⟩ := hr
  obtain ⟨g, hg⟩ : ∃ g, ps[k]? = some g := ⟨_, List.getElem?_eq_getElem (by omega)⟩
  have hkg := (r7 g (List.mem_of_getElem? hg)).1
  have eg := r6 k g hg
  have loop : ∀ (d i : Nat) (M1 : Mem), i + d = n - 1 → k ≤ i → mI M1 r 1 = (n : Int) - 1 → mI M1 r 0 = mI M r 0 → Smr M M1 (fun a => a = r) (fun a => a = r + 1) → (∀ j q, (if k ≤ j ∧ j < i then ps[j + 1]? else ps[j]?) = some q → mR M1 (r + 1) j = some q) → G X y_Row_remove (mZ M, mS M, 0, 0) 19 [some (aR (some r)), some (aI k), some (aR (some g)), some (aI i)] [] M1 (fun x M' => x = none ∧ mI M' r 1 = (n : Int) - 1 ∧ mI M' r 0 = mI M r 0 ∧ (∀ j q, (rot ps k n)[j]? = some q → mR M' (r + 1) j = some q) ∧ Smr M M' (fun a => a = r) (fun a => a = r + 1)) := by
    intro d
    induction d with
    | zero =>
      intro i M1 hi hki h1 h1b hS hv
      have f1 := (hS.1 r).trans r1; have f2 := (hS.2.2.1 r 0 (by omega)).trans r2; have f3 := (hS.1 (r + 1)).trans r3; have f4 := (hS.2.1 (r + 1)).trans r4; have f5 := (hS.1 g).trans hkg
      refine G_w (pfb_ok X) LK_48 (fun i => i == 19) 20 _ _ _ _ ?_
      simp only [f_0, f_s, f_iconst, f_bipush, f_sipush, f_ldc, f_ldc_w, f_ldc2_w, f_ldI, f_ldL, f_ldA, f_iload, f_iload_n, f_lload, f_lload_n, f_aload, f_aload_n, f_istore, f_istore_n, f_lstore, f_lstore_n, f_astore, f_astore_n, f_iinc, f_icI, f_iadd, f_isub, f_imul, f_idiv, f_irem, f_iand, f_ior, f_ixor, f_ishl, f_ishr, f_iushr, f_i2l, f_i2b, f_i2s, f_ladd, f_lmul, f_lcmp, f_dupI, f_dupR, f_dup2, f_pop, f_goto, f_if, f_icmp, f_tab, f_ts0, f_ts1, f_getI, f_getZ, f_getR, f_putI, f_putR, f_gets, f_iald, f_bald, f_aald, f_iast, f_bast, f_aast, f_alen, f_new, f_newa, f_anew, f_virt, f_stat0, f_stat1, f_spec0, f_spec1, f_spec9, f_copy, f_max, f_min, f_cV1, f_cV0, f_cS1, f_cS0, f_iret, f_lret, f_vret, f_kG, pf0, cIg, inR, lget, lset, lset2, clr, entL, cnd, psh, catS, tsw, List.take_succ_cons, List.take_zero, List.drop_succ_cons, List.drop_zero, List.reverse_cons, List.reverse_nil, List.nil_append, List.cons_append, List.length_cons, List.length_nil, List.replicate_succ, List.replicate_zero, Nat.reduceAdd, Nat.reduceSub, Nat.reduceLeDiff, Nat.reduceLT, Nat.reduceEqDiff, Nat.reduceMul, Nat.zero_add, Nat.add_zero, Nat.le_refl, Nat.zero_le, Int.reduceEq, Int.reduceToNat, Int.toNat_natCast, Int.reduceNeg, Int.reduceAdd, Int.reduceSub, Int.reduceMul, Int.reduceLT, Int.reduceLE, Int.reduceDiv, Int.reduceMod, Bool.false_eq_true, ↓reduceIte, true_and, and_true, implies_true, forall_const, true_or, or_true, or_false, false_or, not_true_eq_false, not_false_eq_true, false_implies, Prod.mk.injEq, Fin.val_zero, Fin.val_one, Fin.isValue, Fin.reduceFinMk, Fin.val_two, mR_uI, mK_uI, mN_uI, mI_uR, mK_uR, mN_uR, mR_uC, mK_uC, mN_uC, Option.some.injEq, Sum.inl.injEq, Sum.inr.injEq, decide_true, decide_false, Bool.or_false, Bool.false_or, Bool.or_true, Bool.true_or, Nat.reduceBEq, beq_self_eq_true, show tb 48 = tb_48 from rfl, tb_48, tb_48_0, tb_48_1, pfb, pfb_b, pfb_c, pfb_v, pfa_b, pfa_c, pfa_v, f1, f2, f3, f4, f5, h1]
      have e1 : ((n : Int) - 1).toNat = n - 1 := by omega
      refine ⟨fun _ => ⟨⟨by omega, by omega⟩, h1b, fun j q hj => ?_, hS.uR rfl _ _⟩, fun h => by omega⟩
      rw [rot_get hg hk (by omega)] at hj
      rw [mR_uR, e1]
      by_cases h3 : j = n - 1
      · rw [if_pos ⟨rfl, h3⟩]
        rw [if_neg (by omega), if_neg (by omega), if_pos h3] at hj
        exact hj
      · rw [if_neg (fun h => h3 h.2)]
        apply hv
        by_cases h4 : j < k
        · rw [if_neg (by omega)]; rw [if_pos h4] at hj; exact hj
        · rw [if_neg h4] at hj
          by_cases h5 : j < n - 1
          · rw [if_pos ⟨by omega, by omega⟩]; rw [if_pos h5] at hj; exact hj
          · rw [if_neg (by omega)]; rw [if_neg h5, if_neg h3] at hj; exact hj
    | succ d ih =>
      intro i M1 hi hki h1 h1b hS hv
      have f1 := (hS.1 r).trans r1; have f2 := (hS.2.2.1 r 0 (by omega)).trans r2; have f3 := (hS.1 (r + 1)).trans r3; have f4 := (hS.2.1 (r + 1)).trans r4
      obtain ⟨u, hu⟩ : ∃ u, ps[i + 1]? = some u := ⟨_, List.getElem?_eq_getElem (by omega)⟩
      have f5 := (hS.1 u).trans (r7 u (List.mem_of_getElem? hu)).1
      have f6 := hv (i + 1) u (by rw [if_neg (by omega)]; exact hu)
      have e1 : ((i : Int) + 1).toNat = i + 1 := by omega
      refine G_w (pfb_ok X) LK_48 (fun i => i == 19) 30 _ _ _ _ ?_
      simp only [f_0, f_s, f_iconst, f_bipush, f_sipush, f_ldc, f_ldc_w, f_ldc2_w, f_ldI, f_ldL, f_ldA, f_iload, f_iload_n, f_lload, f_lload_n, f_aload, f_aload_n, f_istore, f_istore_n, f_lstore, f_lstore_n, f_astore, f_astore_n, f_iinc, f_icI, f_iadd, f_isub, f_imul, f_idiv, f_irem, f_iand, f_ior, f_ixor, f_ishl, f_ishr, f_iushr, f_i2l, f_i2b, f_i2s, f_ladd, f_lmul, f_lcmp, f_dupI, f_dupR, f_dup2, f_pop, f_goto, f_if, f_icmp, f_tab, f_ts0, f_ts1, f_getI, f_getZ, f_getR, f_putI, f_putR, f_gets, f_iald, f_bald, f_aald, f_iast, f_bast, f_aast, f_alen, f_new, f_newa, f_anew, f_virt, f_stat0, f_stat1, f_spec0, f_spec1, f_spec9, f_copy, f_max, f_min, f_cV1, f_cV0, f_cS1, f_cS0, f_iret, f_lret, f_vret, f_kG, pf0, cIg, inR, lget, lset, lset2, clr, entL, cnd, psh, catS, tsw, List.take_succ_cons, List.take_zero, List.drop_succ_cons, List.drop_zero, List.reverse_cons, List.reverse_nil, List.nil_append, List.cons_append, List.length_cons, List.length_nil, List.replicate_succ, List.replicate_zero, Nat.reduceAdd, Nat.reduceSub, Nat.reduceLeDiff, Nat.reduceLT, Nat.reduceEqDiff, Nat.reduceMul, Nat.zero_add, Nat.add_zero, Nat.le_refl, Nat.zero_le, Int.reduceEq, Int.reduceToNat, Int.toNat_natCast, Int.reduceNeg, Int.reduceAdd, Int.reduceSub, Int.reduceMul, Int.reduceLT, Int.reduceLE, Int.reduceDiv, Int.reduceMod, Bool.false_eq_true, ↓reduceIte, true_and, and_true, implies_true, forall_const, true_or, or_true, or_false, false_or, not_true_eq_false, not_false_eq_true, false_implies, Prod.mk.injEq, Fin.val_zero, Fin.val_one, Fin.isValue, Fin.reduceFinMk, Fin.val_two, mR_uI, mK_uI, mN_uI, mI_uR, mK_uR, mN_uR, mR_uC, mK_uC, mN_uC, Option.some.injEq, Sum.inl.injEq, Sum.inr.injEq, decide_true, decide_false, Bool.or_false, Bool.false_or, Bool.or_true, Bool.true_or, Nat.reduceBEq, beq_self_eq_true, show tb 48 = tb_48 from rfl, tb_48, tb_48_0, tb_48_1, pfb, pfb_b, pfb_c, pfb_v, pfa_b, pfa_c, pfa_v, f1, f2, f3, f4, h1, e1, f6, f5]
      (repeat' (first | with_reducible apply And.intro | with_reducible intro _)) <;> (try omega)
      refine ih (i + 1) _ (by omega) (by omega) h1 h1b (hS.uR rfl _ _) (fun j q hj => ?_)
      rw [mR_uR]
      by_cases h3 : j = i
      · subst h3
        rw [if_pos ⟨rfl, rfl⟩]
        rw [if_pos ⟨by omega, by omega⟩] at hj
        rw [← hj, hu]
      · rw [if_neg (fun h => h3 h.2)]
        apply hv
        by_cases h4 : k ≤ j ∧ j < i
        · rw [if_pos h4]; rw [if_pos ⟨by omega, by omega⟩] at hj; exact hj
        · rw [if_neg h4]; rw [if_neg (by omega)] at hj; exact hj
  refine Ev_of mcd_48 mok_48 (by decide) rfl (Nat.le_of_ble_eq_true rfl) ?_
  rw [show yl 48 = 4 from rfl]
  refine G_w (pfb_ok X) LK_48 (fun i => i == 19) 24 _ _ _ _ ?_
  simp only [f_0, f_s, f_iconst, f_bipush, f_sipush, f_ldc, f_ldc_w, f_ldc2_w, f_ldI, f_ldL, f_ldA, f_iload, f_iload_n, f_lload, f_lload_n, f_aload, f_aload_n, f_istore, f_istore_n, f_lstore, f_lstore_n, f_astore, f_astore_n, f_iinc, f_icI, f_iadd, f_isub, f_imul, f_idiv, f_irem, f_iand, f_ior, f_ixor, f_ishl, f_ishr, f_iushr, f_i2l, f_i2b, f_i2s, f_ladd, f_lmul, f_lcmp, f_dupI, f_dupR, f_dup2, f_pop, f_goto, f_if, f_icmp, f_tab, f_ts0, f_ts1, f_getI, f_getZ, f_getR, f_putI, f_putR, f_gets, f_iald, f_bald, f_aald, f_iast, f_bast, f_aast, f_alen, f_new, f_newa, f_anew, f_virt, f_stat0, f_stat1, f_spec0, f_spec1, f_spec9, f_copy, f_max, f_min, f_cV1, f_cV0, f_cS1, f_cS0, f_iret, f_lret, f_vret, f_kG, pf0, cIg, inR, lget, lset, lset2, clr, entL, cnd, psh, catS, tsw, List.take_succ_cons, List.take_zero, List.drop_succ_cons, List.drop_zero, List.reverse_cons, List.reverse_nil, List.nil_append, List.cons_append, List.length_cons, List.length_nil, List.replicate_succ, List.replicate_zero, Nat.reduceAdd, Nat.reduceSub, Nat.reduceLeDiff, Nat.reduceLT, Nat.reduceEqDiff, Nat.reduceMul, Nat.zero_add, Nat.add_zero, Nat.le_refl, Nat.zero_le, Int.reduceEq, Int.reduceToNat, Int.toNat_natCast, Int.reduceNeg, Int.reduceAdd, Int.reduceSub, Int.reduceMul, Int.reduceLT, Int.reduceLE, Int.reduceDiv, Int.reduceMod, Bool.false_eq_true, ↓reduceIte, true_and, and_true, implies_true, forall_const, true_or, or_true, or_false, false_or, not_true_eq_false, not_false_eq_true, false_implies, Prod.mk.injEq, Fin.val_zero, Fin.val_one, Fin.isValue, Fin.reduceFinMk, Fin.val_two, mR_uI, mK_uI, mN_uI, mI_uR, mK_uR, mN_uR, mR_uC, mK_uC, mN_uC, Option.some.injEq, Sum.inl.injEq, Sum.inr.injEq, decide_true, decide_false, Bool.or_false, Bool.false_or, Bool.or_true, Bool.true_or, Nat.reduceBEq, beq_self_eq_true, show tb 48 = tb_48 from rfl, tb_48, tb_48_0, tb_48_1, pfb, pfb_b, pfb_c, pfb_v, pfa_b, pfa_c, pfa_v, r1, r2, r3, r4, hn, eg]
  (repeat' (first | with_reducible apply And.intro | with_reducible intro _)) <;> (try omega)
  exact loop (n - 1 - k) k _ (by omega) (Nat.le_refl _) mI_uI_eq (by rw [mI_uI_nk (by omega)]) (Smr.uI (S := fun a => a = r) (Smr.rf M _ _) rfl _ _) (fun j q hj => by rw [if_neg (by omega)] at hj; exact r6 j q hj)
