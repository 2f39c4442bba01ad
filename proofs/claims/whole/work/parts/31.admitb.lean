/-! what is taken comes in -/
theorem PL_u3 {M : Mem} {p q k : Nat} {g : Int} {L : Po} (h : PL M p L) (hp : PA M p) (hq : PA M q) (hk : k ≠ 2) : PL (uI M q k g) p L := by
  obtain ⟨l1, l2, l3⟩ := h
  have n1 : p + 1 ≠ q := fun e => by have h1 := hp.2.1; rw [e, hq.1] at h1; omega
  have n2 : p + 2 ≠ q := fun e => by have h1 := hp.2.2.1; rw [e, hq.1] at h1; omega
  refine ⟨(mI_uI_nk (by omega)).trans l1, l2, fun j t ht => ?_⟩
  obtain ⟨e1, e2⟩ := l3 j t ht
  exact ⟨(mI_uI_ne n1).trans e1, (mI_uI_ne n2).trans e2⟩
theorem at_mid {α : Type} (A B : List α) (x : α) : (A ++ x :: B)[A.length]? = some x := by
  rw [List.getElem?_append_right (Nat.le_refl _), Nat.sub_self, List.getElem?_cons_zero]
theorem at_oth {α : Type} (A B : List α) (x y : α) (j : Nat) (h : j ≠ A.length) : (A ++ x :: B)[j]? = (A ++ y :: B)[j]? := by
  by_cases hj : j < A.length
  · rw [List.getElem?_append_left hj, List.getElem?_append_left hj]
  · rw [List.getElem?_append_right (by omega), List.getElem?_append_right (by omega), show j - A.length = (j - A.length - 1) + 1 by omega, List.getElem?_cons_succ, List.getElem?_cons_succ]
theorem CB_set {M : Mem} {r cap q : Nat} {ps : List Nat} {A B : List Mb} {b : Mb} {g : Int} (h : CB M r cap ps (A ++ b :: B)) (hq : ps[A.length]? = some q) (hr : ∀ q ∈ ps, r ≠ q) : CB (uI M q 3 g) r cap ps (A ++ (b.1, g, b.2.2) :: B) := by
  obtain ⟨ra, b1, b2, b3⟩ := h
  have hl : (A ++ (b.1, g, b.2.2) :: B).length = (A ++ b :: B).length := by simp
  refine ⟨ra, (mI_uI_ne (hr q (List.mem_of_getElem? hq))).trans (by rw [hl]; exact b1), by rw [hl]; exact b2, fun j x hx => ?_⟩
  have pq := ra.2.2.2.2.2.2.1 q (List.mem_of_getElem? hq)
  by_cases hj : j = A.length
  · subst hj
    rw [at_mid, Option.some.injEq] at hx
    subst hx
    obtain ⟨q', w1, w2, w3, w4⟩ := b3 A.length b (at_mid _ _ _)
    have e : q' = q := Option.some.inj (w1.symm.trans hq)
    subst e
    exact ⟨q', hq, PL_u3 w2 pq pq (by omega), mI_uI_eq, (mI_uI_nk (by omega)).trans w4⟩
  · rw [at_oth A B _ b j hj] at hx
    obtain ⟨q', w1, w2, w3, w4⟩ := b3 j x hx
    have e := nd_ne ra.2.2.2.2.2.2.2 w1 hq hj
    exact ⟨q', w1, PL_u3 w2 (ra.2.2.2.2.2.2.1 q' (List.mem_of_getElem? w1)) pq (by omega), (mI_uI_ne e).trans w3, (mI_uI_ne e).trans w4⟩
def setG (hs : List Int) (b : Mb) : Mb := (b.1, goodF (hd b.1) hs, b.2.2)
set_option maxRecDepth 100000 in
set_option maxHeartbeats 4000000 in
theorem g_loop (X : CX) (M : Mem) (c : Nat) (ps : List Nat) (hs : List Int) (hE : Ext M) (hcc : c = 361 ∨ c = 441) (hc : mK M c = 5 ∧ mR M c 0 = some (c + 1)) (hr' : ∀ q ∈ ps, c + 3 ≤ q ∧ q ≤ c + 72) (M0 : Mem) : ∀ (B A : List Mb) (M1 : Mem) (v1 : Int), CB M1 (c + 1) 24 ps (A.map (setG hs) ++ B) → (A ++ B).map (fun b => hd b.1) = hs → (∀ b ∈ A ++ B, okP b.1 ∧ b.1 ≠ []) → Same M M1 (fun a => c + 3 ≤ a ∧ a ≤ c + 72) → G X y_Completion_admit (mZ M0, mS M0, 0, 0) 51 [some (aR (some c)), some (aI v1), some (aI A.length)] [] M1 (fun r M' => r = some (aI 1) ∧ CB M' (c + 1) 24 ps ((A ++ B).map (setG hs)) ∧ Same M M' (fun a => c + 3 ≤ a ∧ a ≤ c + 72)) := by
  intro B
  induction B with
  | nil =>
    intro A M1 v1 hb hh hok hS
    have k1 := (hS.1 c).trans hc.1
    have k2 := (hS.2.2.1 c 0).trans hc.2
    have k3 := hb.1.1
    have k4 := hb.2.1
    rw [List.append_nil] at hb ⊢
    rw [List.append_nil, List.length_map] at k4
    refine G_w (pfb_ok X) LK_54 (fun i => i == 51) 20 _ _ _ _ ?_
    simp only [f_0, f_s, f_iconst, f_bipush, f_sipush, f_ldc, f_ldc_w, f_ldc2_w, f_ldI, f_ldL, f_ldA, f_iload, f_iload_n, f_lload, f_lload_n, f_aload, f_aload_n, f_istore, f_istore_n, f_lstore, f_lstore_n, f_astore, f_astore_n, f_iinc, f_icI, f_iadd, f_isub, f_imul, f_idiv, f_irem, f_iand, f_ior, f_ixor, f_ishl, f_ishr, f_iushr, f_i2l, f_i2b, f_i2s, f_ladd, f_lmul, f_lcmp, f_dupI, f_dupR, f_dup2, f_pop, f_goto, f_if, f_icmp, f_tab, f_ts0, f_ts1, f_getI, f_getZ, f_getR, f_putI, f_putR, f_gets, f_iald, f_bald, f_aald, f_iast, f_bast, f_aast, f_alen, f_new, f_newa, f_anew, f_virt, f_stat0, f_stat1, f_spec0, f_spec1, f_spec9, f_copy, f_max, f_min, f_cV1, f_cV0, f_cS1, f_cS0, f_iret, f_lret, f_vret, f_kG, pf0, cIg, inR, lget, lset, lset2, clr, entL, cnd, psh, catS, tsw, List.take_succ_cons, List.take_zero, List.drop_succ_cons, List.drop_zero, List.reverse_cons, List.reverse_nil, List.nil_append, List.cons_append, List.length_cons, List.length_nil, List.replicate_succ, List.replicate_zero, Nat.reduceAdd, Nat.reduceSub, Nat.reduceLeDiff, Nat.reduceLT, Nat.reduceEqDiff, Nat.reduceMul, Nat.zero_add, Nat.add_zero, Nat.le_refl, Nat.zero_le, Int.reduceEq, Int.reduceToNat, Int.toNat_natCast, Int.reduceNeg, Int.reduceAdd, Int.reduceSub, Int.reduceMul, Int.reduceLT, Int.reduceLE, Int.reduceDiv, Int.reduceMod, Bool.false_eq_true, ↓reduceIte, true_and, and_true, implies_true, forall_const, true_or, or_true, or_false, false_or, not_true_eq_false, not_false_eq_true, false_implies, Prod.mk.injEq, Fin.val_zero, Fin.val_one, Fin.isValue, Fin.reduceFinMk, Fin.val_two, mR_uI, mK_uI, mN_uI, mI_uR, mK_uR, mN_uR, mR_uC, mK_uC, mN_uC, Option.some.injEq, Sum.inl.injEq, Sum.inr.injEq, decide_true, decide_false, Bool.or_false, Bool.false_or, Bool.or_true, Bool.true_or, Nat.reduceBEq, beq_self_eq_true, show tb 54 = tb_54 from rfl, tb_54, tb_54_0, tb_54_1, tb_54_2, pfb, pfb_b, pfb_c, pfb_v, pfa_b, pfa_c, pfa_v, k1, k2, k3, k4]
    (repeat' (first | with_reducible apply And.intro | with_reducible intro _)) <;> (try omega)
    all_goals exact ⟨rfl, hb, hS⟩
  | cons b B ih =>
    intro A M1 v1 hb hh hok hS
    have k1 := (hS.1 c).trans hc.1
    have k2 := (hS.2.2.1 c 0).trans hc.2
    have k3 := hb.1.1
    have k4 := hb.2.1
    have k5 := hb.1.2.1
    have k6 := hb.1.2.2.1
    have k7 := hb.1.2.2.2.1
    rw [List.length_append, List.length_map, List.length_cons] at k4
    have k9 := hb.2.2.1
    rw [List.length_append, List.length_map, List.length_cons] at k9
    have hE1 := hS.ext hE (fun a ha => by have := big_gt; omega)
    have hm := at_mid (A.map (setG hs)) B b
    rw [List.length_map] at hm
    obtain ⟨q, w1, w2, -, -⟩ := hb.2.2.2 _ _ hm
    have k8 := hb.1.2.2.2.2.2.1 _ _ w1
    have kq := hb.1.2.2.2.2.2.2.1 q (List.mem_of_getElem? w1)
    have hrq := hr' q (List.mem_of_getElem? w1)
    refine G_w (pfb_ok X) LK_54 (fun i => i == 51) 20 _ _ _ _ ?_
    simp only [f_0, f_s, f_iconst, f_bipush, f_sipush, f_ldc, f_ldc_w, f_ldc2_w, f_ldI, f_ldL, f_ldA, f_iload, f_iload_n, f_lload, f_lload_n, f_aload, f_aload_n, f_istore, f_istore_n, f_lstore, f_lstore_n, f_astore, f_astore_n, f_iinc, f_icI, f_iadd, f_isub, f_imul, f_idiv, f_irem, f_iand, f_ior, f_ixor, f_ishl, f_ishr, f_iushr, f_i2l, f_i2b, f_i2s, f_ladd, f_lmul, f_lcmp, f_dupI, f_dupR, f_dup2, f_pop, f_goto, f_if, f_icmp, f_tab, f_ts0, f_ts1, f_getI, f_getZ, f_getR, f_putI, f_putR, f_gets, f_iald, f_bald, f_aald, f_iast, f_bast, f_aast, f_alen, f_new, f_newa, f_anew, f_virt, f_stat0, f_stat1, f_spec0, f_spec1, f_spec9, f_copy, f_max, f_min, f_cV1, f_cV0, f_cS1, f_cS0, f_iret, f_lret, f_vret, f_kG, pf0, cIg, inR, lget, lset, lset2, clr, entL, cnd, psh, catS, tsw, List.take_succ_cons, List.take_zero, List.drop_succ_cons, List.drop_zero, List.reverse_cons, List.reverse_nil, List.nil_append, List.cons_append, List.length_cons, List.length_nil, List.replicate_succ, List.replicate_zero, Nat.reduceAdd, Nat.reduceSub, Nat.reduceLeDiff, Nat.reduceLT, Nat.reduceEqDiff, Nat.reduceMul, Nat.zero_add, Nat.add_zero, Nat.le_refl, Nat.zero_le, Int.reduceEq, Int.reduceToNat, Int.toNat_natCast, Int.reduceNeg, Int.reduceAdd, Int.reduceSub, Int.reduceMul, Int.reduceLT, Int.reduceLE, Int.reduceDiv, Int.reduceMod, Bool.false_eq_true, ↓reduceIte, true_and, and_true, implies_true, forall_const, true_or, or_true, or_false, false_or, not_true_eq_false, not_false_eq_true, false_implies, Prod.mk.injEq, Fin.val_zero, Fin.val_one, Fin.isValue, Fin.reduceFinMk, Fin.val_two, mR_uI, mK_uI, mN_uI, mI_uR, mK_uR, mN_uR, mR_uC, mK_uC, mN_uC, Option.some.injEq, Sum.inl.injEq, Sum.inr.injEq, decide_true, decide_false, Bool.or_false, Bool.false_or, Bool.or_true, Bool.true_or, Nat.reduceBEq, beq_self_eq_true, show tb 54 = tb_54 from rfl, tb_54, tb_54_0, tb_54_1, tb_54_2, pfb, pfb_b, pfb_c, pfb_v, pfa_b, pfa_c, pfa_v, k1, k2, k3, k4, k5, k6, k7, k8]
    refine ⟨fun h => by omega, fun _ => ⟨by omega, ?_⟩⟩
    have hmp : (A.map (setG hs) ++ b :: B).map (fun b => hd b.1) = hs := by
      rw [← hh, List.map_append, List.map_append, List.map_map]; rfl
    have hok2 : ∀ x ∈ A.map (setG hs) ++ b :: B, okP x.1 ∧ x.1 ≠ [] := fun x hx => by
      rcases List.mem_append.mp hx with h | h
      · obtain ⟨y, hy, rfl⟩ := List.mem_map.mp h
        exact hok y (List.mem_append.mpr (Or.inl hy))
      · exact hok x (List.mem_append.mpr (Or.inr h))
    refine Ev_mono (e_findGood X M1 c A.length ps _ b hE1 ⟨k1, k2⟩ hb hok2 hm) (fun r M2 hr _ _ => ?_)
    obtain ⟨rfl, rfl⟩ := hr
    rw [hmp]
    simp only [f_kG, psh, Nat.reduceAdd]
    refine G_w (pfb_ok X) LK_54 (fun i => i == 51) 20 _ _ _ _ ?_
    simp only [f_0, f_s, f_iconst, f_bipush, f_sipush, f_ldc, f_ldc_w, f_ldc2_w, f_ldI, f_ldL, f_ldA, f_iload, f_iload_n, f_lload, f_lload_n, f_aload, f_aload_n, f_istore, f_istore_n, f_lstore, f_lstore_n, f_astore, f_astore_n, f_iinc, f_icI, f_iadd, f_isub, f_imul, f_idiv, f_irem, f_iand, f_ior, f_ixor, f_ishl, f_ishr, f_iushr, f_i2l, f_i2b, f_i2s, f_ladd, f_lmul, f_lcmp, f_dupI, f_dupR, f_dup2, f_pop, f_goto, f_if, f_icmp, f_tab, f_ts0, f_ts1, f_getI, f_getZ, f_getR, f_putI, f_putR, f_gets, f_iald, f_bald, f_aald, f_iast, f_bast, f_aast, f_alen, f_new, f_newa, f_anew, f_virt, f_stat0, f_stat1, f_spec0, f_spec1, f_spec9, f_copy, f_max, f_min, f_cV1, f_cV0, f_cS1, f_cS0, f_iret, f_lret, f_vret, f_kG, pf0, cIg, inR, lget, lset, lset2, clr, entL, cnd, psh, catS, tsw, List.take_succ_cons, List.take_zero, List.drop_succ_cons, List.drop_zero, List.reverse_cons, List.reverse_nil, List.nil_append, List.cons_append, List.length_cons, List.length_nil, List.replicate_succ, List.replicate_zero, Nat.reduceAdd, Nat.reduceSub, Nat.reduceLeDiff, Nat.reduceLT, Nat.reduceEqDiff, Nat.reduceMul, Nat.zero_add, Nat.add_zero, Nat.le_refl, Nat.zero_le, Int.reduceEq, Int.reduceToNat, Int.toNat_natCast, Int.reduceNeg, Int.reduceAdd, Int.reduceSub, Int.reduceMul, Int.reduceLT, Int.reduceLE, Int.reduceDiv, Int.reduceMod, Bool.false_eq_true, ↓reduceIte, true_and, and_true, implies_true, forall_const, true_or, or_true, or_false, false_or, not_true_eq_false, not_false_eq_true, false_implies, Prod.mk.injEq, Fin.val_zero, Fin.val_one, Fin.isValue, Fin.reduceFinMk, Fin.val_two, mR_uI, mK_uI, mN_uI, mI_uR, mK_uR, mN_uR, mR_uC, mK_uC, mN_uC, Option.some.injEq, Sum.inl.injEq, Sum.inr.injEq, decide_true, decide_false, Bool.or_false, Bool.false_or, Bool.or_true, Bool.true_or, Nat.reduceBEq, beq_self_eq_true, show tb 54 = tb_54 from rfl, tb_54, tb_54_0, tb_54_1, tb_54_2, pfb, pfb_b, pfb_c, pfb_v, pfa_b, pfa_c, pfa_v, kq.1]
    refine ⟨by omega, ?_⟩
    have hb2 := CB_set (g := goodF (hd b.1) hs) hb (by rw [List.length_map]; exact w1) (fun q hq => by have := hr' q hq; omega)
    have e1 : A.map (setG hs) ++ (b.1, goodF (hd b.1) hs, b.2.2) :: B = (A ++ [b]).map (setG hs) ++ B := by
      rw [List.map_append, List.append_assoc]; rfl
    have e2 : A ++ b :: B = (A ++ [b]) ++ B := by rw [List.append_assoc]; rfl
    rw [e1] at hb2
    rw [e2] at hh hok ⊢
    have hf := ih (A ++ [b]) _ v1 hb2 hh hok (hS.uI hrq 3 _)
    rw [List.length_append] at hf
    exact hf
def dvP (a b : Int) : Prop := ex a 0 ≤ ex b 0 ∧ ex a 1 ≤ ex b 1 ∧ ex a 2 ≤ ex b 2
def dvB (a b : Int) : Bool := decide (ex a 0 ≤ ex b 0 ∧ ex a 1 ≤ ex b 1 ∧ ex a 2 ≤ ex b 2)
/-- the multiples go -/
def admL (h : Int) : List Mb → List Mb → List Po → Option (List Mb × List Po)
  | [], A, pl => some (A, pl)
  | b :: B, A, pl => if dvB h (hd b.1) = true then (if pl.length = 100 then none else admL h B A (pl ++ [b.1])) else admL h B (A ++ [b]) pl
def admE (t : Po) : Option (List Mb × List Po) → Option (List Mb × List Po)
  | none => none
  | some (A, pl) => if A.length = 24 then none else some ((A ++ [(t, 0, 0)]).map (setG ((A ++ [(t, 0, 0)]).map (fun b : Mb => hd b.1))), pl)
def admF (t : Po) (bs : List Mb) (pl : List Po) : Option (List Mb × List Po) := admE t (admL (hd t) bs [] pl)
/-- how it ends -/
def AD (M : Mem) (c : Nat) (o : Int) (res : Option (List Mb × List Po)) (r : Option AV) (M' : Mem) : Prop := Smr M M' (CR c) (CQ c) ∧ ∃ ps' qs', CW M' c o ps' qs' ∧ RA M' (c + 1) 24 ps' ∧ RA M' 59 100 qs' ∧ (r = some (aI (if res.isSome then 1 else 0))) ∧ ∀ bs' pl', res = some (bs', pl') → CB M' (c + 1) 24 ps' bs' ∧ PB M' 59 100 qs' pl'
set_option maxRecDepth 100000 in
set_option maxHeartbeats 4000000 in
theorem a_loop (X : CX) (M0 : Mem) (c : Nat) (o : Int) (t : Po) (okt : okP t ∧ t ≠ []) : ∀ (B A : List Mb) (pl : List Po) (ps qs : List Nat) (M1 : Mem), CW M1 c o ps qs → CB M1 (c + 1) 24 ps (A ++ B) → PB M1 59 100 qs pl → PL M1 (c + 75) t → (∀ b ∈ A ++ B, okP b.1 ∧ b.1 ≠ []) → Smr M0 M1 (CR c) (CQ c) → G X y_Completion_admit (mZ M0, mS M0, 0, 0) 9 [some (aR (some c)), some (aI A.length), some (aI B.length)] [] M1 (AD M0 c o (admE t (admL (hd t) B A pl))) := by
  intro B
  induction B with
  | nil =>
    intro A pl ps qs M1 hW hb hp hL hok hS
    have hW0 := hW
    obtain ⟨hE, hcc, hca, ho, ho2, htk, hrp, hrq⟩ := hW
    obtain ⟨c1, c2, c3, c4, c5, c6, c7, c8⟩ := hca
    rw [List.append_nil] at hb hok
    have k3 := hb.1.1
    have k10 := htk.1
    refine G_w (pfb_ok X) LK_54 (fun i => i == 9 || i == 51) 20 _ _ _ _ ?_
    simp only [f_0, f_s, f_iconst, f_bipush, f_sipush, f_ldc, f_ldc_w, f_ldc2_w, f_ldI, f_ldL, f_ldA, f_iload, f_iload_n, f_lload, f_lload_n, f_aload, f_aload_n, f_istore, f_istore_n, f_lstore, f_lstore_n, f_astore, f_astore_n, f_iinc, f_icI, f_iadd, f_isub, f_imul, f_idiv, f_irem, f_iand, f_ior, f_ixor, f_ishl, f_ishr, f_iushr, f_i2l, f_i2b, f_i2s, f_ladd, f_lmul, f_lcmp, f_dupI, f_dupR, f_dup2, f_pop, f_goto, f_if, f_icmp, f_tab, f_ts0, f_ts1, f_getI, f_getZ, f_getR, f_putI, f_putR, f_gets, f_iald, f_bald, f_aald, f_iast, f_bast, f_aast, f_alen, f_new, f_newa, f_anew, f_virt, f_stat0, f_stat1, f_spec0, f_spec1, f_spec9, f_copy, f_max, f_min, f_cV1, f_cV0, f_cS1, f_cS0, f_iret, f_lret, f_vret, f_kG, pf0, cIg, inR, lget, lset, lset2, clr, entL, cnd, psh, catS, tsw, List.take_succ_cons, List.take_zero, List.drop_succ_cons, List.drop_zero, List.reverse_cons, List.reverse_nil, List.nil_append, List.cons_append, List.length_cons, List.length_nil, List.replicate_succ, List.replicate_zero, Nat.reduceAdd, Nat.reduceSub, Nat.reduceLeDiff, Nat.reduceLT, Nat.reduceEqDiff, Nat.reduceMul, Nat.zero_add, Nat.add_zero, Nat.le_refl, Nat.zero_le, Int.reduceEq, Int.reduceToNat, Int.toNat_natCast, Int.reduceNeg, Int.reduceAdd, Int.reduceSub, Int.reduceMul, Int.reduceLT, Int.reduceLE, Int.reduceDiv, Int.reduceMod, Bool.false_eq_true, ↓reduceIte, true_and, and_true, implies_true, forall_const, true_or, or_true, or_false, false_or, not_true_eq_false, not_false_eq_true, false_implies, Prod.mk.injEq, Fin.val_zero, Fin.val_one, Fin.isValue, Fin.reduceFinMk, Fin.val_two, mR_uI, mK_uI, mN_uI, mI_uR, mK_uR, mN_uR, mR_uC, mK_uC, mN_uC, Option.some.injEq, Sum.inl.injEq, Sum.inr.injEq, decide_true, decide_false, Bool.or_false, Bool.false_or, Bool.or_true, Bool.true_or, Nat.reduceBEq, beq_self_eq_true, show tb 54 = tb_54 from rfl, tb_54, tb_54_0, tb_54_1, tb_54_2, pfb, pfb_b, pfb_c, pfb_v, pfa_b, pfa_c, pfa_v, c1, c2, c4, k3, k10]
    refine ⟨fun _ => ?_, fun h => by omega⟩
    refine Ev_mono (e_rappend X M1 (c + 1) 24 A.length (c + 75) ps t hb.1 hb.2.1 ⟨hb.2.2.1, by omega⟩ htk hL (fun h => by have := hrp _ h; omega) (fun u hu => by have := hrp _ (List.mem_of_getElem? hu); omega)) (fun r M2 hr _ _ => ?_)
    rcases hr with ⟨n1, rfl, rfl⟩ | ⟨u, u1, rfl, u2, u3, u4, u5, u6⟩
    · simp only [f_kG, psh, Nat.reduceAdd]
      refine G_w (pfb_ok X) LK_54 (fun i => i == 9 || i == 51) 20 _ _ _ _ ?_
      simp only [f_0, f_s, f_iconst, f_bipush, f_sipush, f_ldc, f_ldc_w, f_ldc2_w, f_ldI, f_ldL, f_ldA, f_iload, f_iload_n, f_lload, f_lload_n, f_aload, f_aload_n, f_istore, f_istore_n, f_lstore, f_lstore_n, f_astore, f_astore_n, f_iinc, f_icI, f_iadd, f_isub, f_imul, f_idiv, f_irem, f_iand, f_ior, f_ixor, f_ishl, f_ishr, f_iushr, f_i2l, f_i2b, f_i2s, f_ladd, f_lmul, f_lcmp, f_dupI, f_dupR, f_dup2, f_pop, f_goto, f_if, f_icmp, f_tab, f_ts0, f_ts1, f_getI, f_getZ, f_getR, f_putI, f_putR, f_gets, f_iald, f_bald, f_aald, f_iast, f_bast, f_aast, f_alen, f_new, f_newa, f_anew, f_virt, f_stat0, f_stat1, f_spec0, f_spec1, f_spec9, f_copy, f_max, f_min, f_cV1, f_cV0, f_cS1, f_cS0, f_iret, f_lret, f_vret, f_kG, pf0, cIg, inR, lget, lset, lset2, clr, entL, cnd, psh, catS, tsw, List.take_succ_cons, List.take_zero, List.drop_succ_cons, List.drop_zero, List.reverse_cons, List.reverse_nil, List.nil_append, List.cons_append, List.length_cons, List.length_nil, List.replicate_succ, List.replicate_zero, Nat.reduceAdd, Nat.reduceSub, Nat.reduceLeDiff, Nat.reduceLT, Nat.reduceEqDiff, Nat.reduceMul, Nat.zero_add, Nat.add_zero, Nat.le_refl, Nat.zero_le, Int.reduceEq, Int.reduceToNat, Int.toNat_natCast, Int.reduceNeg, Int.reduceAdd, Int.reduceSub, Int.reduceMul, Int.reduceLT, Int.reduceLE, Int.reduceDiv, Int.reduceMod, Bool.false_eq_true, ↓reduceIte, true_and, and_true, implies_true, forall_const, true_or, or_true, or_false, false_or, not_true_eq_false, not_false_eq_true, false_implies, Prod.mk.injEq, Fin.val_zero, Fin.val_one, Fin.isValue, Fin.reduceFinMk, Fin.val_two, mR_uI, mK_uI, mN_uI, mI_uR, mK_uR, mN_uR, mR_uC, mK_uC, mN_uC, Option.some.injEq, Sum.inl.injEq, Sum.inr.injEq, decide_true, decide_false, Bool.or_false, Bool.false_or, Bool.or_true, Bool.true_or, Nat.reduceBEq, beq_self_eq_true, show tb 54 = tb_54 from rfl, tb_54, tb_54_0, tb_54_1, tb_54_2, pfb, pfb_b, pfb_c, pfb_v, pfa_b, pfa_c, pfa_v]
      refine ⟨hS, ps, qs, hW0, hb.1, hp.1, ?_, ?_⟩
      · rw [admL, admE, if_pos n1]; rfl
      · intro bs' pl' h
        rw [admL, admE, if_pos n1] at h; cases h
    · have hru := hrp u (List.mem_of_getElem? u1)
      have hA : A.length ≠ 24 := by
        have h1 := (List.getElem?_eq_some_iff.mp u1).1
        have h2 := hb.1.2.2.2.2.1
        omega
      have hS2 : Smr M1 M2 (CR c) (CQ c) := (u6.smr (CQ c)).w (fun a h => by unfold T3 at h; unfold CR; omega) (fun _ h => h)
      have hb2 := CB_app hb u1 u2 u3 u4 u5 u6 (fun q hq => by have := hrp q hq; omega)
      have hp2 := PB_same hp u6 (by unfold T3; omega) (fun q hq => by have := hrq q hq; unfold T3; omega)
      have hW2 := hW0.smr hS2 hrp hrq
      simp only [f_kG, psh, Nat.reduceAdd]
      refine G_w (pfb_ok X) LK_54 (fun i => i == 9 || i == 51) 20 _ _ _ _ ?_
      simp only [f_0, f_s, f_iconst, f_bipush, f_sipush, f_ldc, f_ldc_w, f_ldc2_w, f_ldI, f_ldL, f_ldA, f_iload, f_iload_n, f_lload, f_lload_n, f_aload, f_aload_n, f_istore, f_istore_n, f_lstore, f_lstore_n, f_astore, f_astore_n, f_iinc, f_icI, f_iadd, f_isub, f_imul, f_idiv, f_irem, f_iand, f_ior, f_ixor, f_ishl, f_ishr, f_iushr, f_i2l, f_i2b, f_i2s, f_ladd, f_lmul, f_lcmp, f_dupI, f_dupR, f_dup2, f_pop, f_goto, f_if, f_icmp, f_tab, f_ts0, f_ts1, f_getI, f_getZ, f_getR, f_putI, f_putR, f_gets, f_iald, f_bald, f_aald, f_iast, f_bast, f_aast, f_alen, f_new, f_newa, f_anew, f_virt, f_stat0, f_stat1, f_spec0, f_spec1, f_spec9, f_copy, f_max, f_min, f_cV1, f_cV0, f_cS1, f_cS0, f_iret, f_lret, f_vret, f_kG, pf0, cIg, inR, lget, lset, lset2, clr, entL, cnd, psh, catS, tsw, List.take_succ_cons, List.take_zero, List.drop_succ_cons, List.drop_zero, List.reverse_cons, List.reverse_nil, List.nil_append, List.cons_append, List.length_cons, List.length_nil, List.replicate_succ, List.replicate_zero, Nat.reduceAdd, Nat.reduceSub, Nat.reduceLeDiff, Nat.reduceLT, Nat.reduceEqDiff, Nat.reduceMul, Nat.zero_add, Nat.add_zero, Nat.le_refl, Nat.zero_le, Int.reduceEq, Int.reduceToNat, Int.toNat_natCast, Int.reduceNeg, Int.reduceAdd, Int.reduceSub, Int.reduceMul, Int.reduceLT, Int.reduceLE, Int.reduceDiv, Int.reduceMod, Bool.false_eq_true, ↓reduceIte, true_and, and_true, implies_true, forall_const, true_or, or_true, or_false, false_or, not_true_eq_false, not_false_eq_true, false_implies, Prod.mk.injEq, Fin.val_zero, Fin.val_one, Fin.isValue, Fin.reduceFinMk, Fin.val_two, mR_uI, mK_uI, mN_uI, mI_uR, mK_uR, mN_uR, mR_uC, mK_uC, mN_uC, Option.some.injEq, Sum.inl.injEq, Sum.inr.injEq, decide_true, decide_false, Bool.or_false, Bool.false_or, Bool.or_true, Bool.true_or, Nat.reduceBEq, beq_self_eq_true, show tb 54 = tb_54 from rfl, tb_54, tb_54_0, tb_54_1, tb_54_2, pfb, pfb_b, pfb_c, pfb_v, pfa_b, pfa_c, pfa_v]
      obtain ⟨hE2, -, ⟨d1, d2, -⟩, -⟩ := hW2
      refine G_mono (g_loop X M2 c ps ((A ++ [(t, 0, 0)]).map (fun b : Mb => hd b.1)) hE2 hcc ⟨d1, d2⟩ hrp M0 (A ++ [(t, 0, 0)]) [] M2 A.length hb2 rfl ?_ (Same.rf _ _)) (fun r M3 hr => ?_)
      · intro x hx
        rw [List.nil_append] at hx
        rcases List.mem_append.mp hx with h | h
        · exact hok x h
        · rw [List.mem_singleton.mp h]; exact okt
      · obtain ⟨rfl, v1, v2⟩ := hr
        have hS3 : Smr M2 M3 (CR c) (CQ c) := (v2.smr (CQ c)).w (fun a h => by unfold CR; omega) (fun _ h => h)
        have hp3 := PB_same hp2 v2 (by omega) (fun q hq => by have := hrq q hq; omega)
        refine ⟨(hS.tr hS2).tr hS3, ps, qs, (hW0.smr hS2 hrp hrq).smr hS3 hrp hrq, v1.1, hp3.1, ?_, ?_⟩
        · rw [admL, admE, if_neg hA]; rfl
        · intro bs' pl' h
          rw [admL, admE, if_neg hA] at h
          simp only [Option.some.injEq, Prod.mk.injEq] at h
          obtain ⟨rfl, rfl⟩ := h
          exact ⟨v1, hp3⟩
  | cons b B ih =>
    intro A pl ps qs M1 hW hb hp hL hok hS
    have hW0 := hW
    obtain ⟨hE, hcc, hca, ho, ho2, htk, hrp, hrq⟩ := hW
    obtain ⟨c1, c2, c3, c4, c5, c6, c7, c8⟩ := hca
    have htk0 := htk
    obtain ⟨p1, p2, p3, p4, p5, p6, p7⟩ := htk
    have k3 := hb.1.1
    have hh := hd_of hL okt.2
    have hm := at_mid A B b
    obtain ⟨q, w1, w2, -, -⟩ := hb.2.2.2 _ _ hm
    have okb := hok b (List.mem_append.mpr (Or.inr List.mem_cons_self))
    have hhb := hd_of w2 okb.2
    have d1 := hd_pr okt.1 okt.2
    have d2 := hd_pr okb.1 okb.2
    have r2 := hb.1.2.1
    have r3 := hb.1.2.2.1
    have r4 := hb.1.2.2.2.1
    have r6 := hb.1.2.2.2.2.2.1 _ _ w1
    have hrb := hrp q (List.mem_of_getElem? w1)
    have hlb := hb.2.2.1
    rw [List.length_append, List.length_cons] at hlb
    have hp59 := hp.1.1
    have pq := hb.1.2.2.2.2.2.2.1 q (List.mem_of_getElem? w1)
    refine G_w (pfb_ok X) LK_54 (fun i => i == 9 || i == 51) 20 _ _ _ _ ?_
    simp only [f_0, f_s, f_iconst, f_bipush, f_sipush, f_ldc, f_ldc_w, f_ldc2_w, f_ldI, f_ldL, f_ldA, f_iload, f_iload_n, f_lload, f_lload_n, f_aload, f_aload_n, f_istore, f_istore_n, f_lstore, f_lstore_n, f_astore, f_astore_n, f_iinc, f_icI, f_iadd, f_isub, f_imul, f_idiv, f_irem, f_iand, f_ior, f_ixor, f_ishl, f_ishr, f_iushr, f_i2l, f_i2b, f_i2s, f_ladd, f_lmul, f_lcmp, f_dupI, f_dupR, f_dup2, f_pop, f_goto, f_if, f_icmp, f_tab, f_ts0, f_ts1, f_getI, f_getZ, f_getR, f_putI, f_putR, f_gets, f_iald, f_bald, f_aald, f_iast, f_bast, f_aast, f_alen, f_new, f_newa, f_anew, f_virt, f_stat0, f_stat1, f_spec0, f_spec1, f_spec9, f_copy, f_max, f_min, f_cV1, f_cV0, f_cS1, f_cS0, f_iret, f_lret, f_vret, f_kG, pf0, cIg, inR, lget, lset, lset2, clr, entL, cnd, psh, catS, tsw, List.take_succ_cons, List.take_zero, List.drop_succ_cons, List.drop_zero, List.reverse_cons, List.reverse_nil, List.nil_append, List.cons_append, List.length_cons, List.length_nil, List.replicate_succ, List.replicate_zero, Nat.reduceAdd, Nat.reduceSub, Nat.reduceLeDiff, Nat.reduceLT, Nat.reduceEqDiff, Nat.reduceMul, Nat.zero_add, Nat.add_zero, Nat.le_refl, Nat.zero_le, Int.reduceEq, Int.reduceToNat, Int.toNat_natCast, Int.reduceNeg, Int.reduceAdd, Int.reduceSub, Int.reduceMul, Int.reduceLT, Int.reduceLE, Int.reduceDiv, Int.reduceMod, Bool.false_eq_true, ↓reduceIte, true_and, and_true, implies_true, forall_const, true_or, or_true, or_false, false_or, not_true_eq_false, not_false_eq_true, false_implies, Prod.mk.injEq, Fin.val_zero, Fin.val_one, Fin.isValue, Fin.reduceFinMk, Fin.val_two, mR_uI, mK_uI, mN_uI, mI_uR, mK_uR, mN_uR, mR_uC, mK_uC, mN_uC, Option.some.injEq, Sum.inl.injEq, Sum.inr.injEq, decide_true, decide_false, Bool.or_false, Bool.false_or, Bool.or_true, Bool.true_or, Nat.reduceBEq, beq_self_eq_true, show tb 54 = tb_54 from rfl, tb_54, tb_54_0, tb_54_1, tb_54_2, pfb, pfb_b, pfb_c, pfb_v, pfa_b, pfa_c, pfa_v, c1, c2, c4, k3, p1, p3, p5, p7, hh]
    refine ⟨fun h => by omega, fun _ => ⟨by omega, ?_⟩⟩
    refine Ev_mono (e_head X M1 (c + 1) 24 A.length q ps hb.1 w1) (fun r M2 hr _ _ => ?_)
    obtain ⟨rfl, rfl⟩ := hr
    rw [hhb]
    have e2 : A ++ b :: B = (A ++ [b]) ++ B := by rw [List.append_assoc]; rfl
    by_cases hdv : ex (hd t) 0 ≤ ex (hd b.1) 0 ∧ ex (hd t) 1 ≤ ex (hd b.1) 1 ∧ ex (hd t) 2 ≤ ex (hd b.1) 2
    · have hif : (if ex (hd t) 0 ≤ ex (hd b.1) 0 ∧ ex (hd t) 1 ≤ ex (hd b.1) 1 ∧ ex (hd t) 2 ≤ ex (hd b.1) 2 then (1 : Int) else 0) = 1 := if_pos hdv
      have hB : dvB (hd t) (hd b.1) = true := by unfold dvB; exact decide_eq_true hdv
      rw [admL, if_pos hB]
      simp only [f_kG, psh, Nat.reduceAdd]
      refine G_w (pfb_ok X) LK_54 (fun i => i == 9 || i == 51) 20 _ _ _ _ ?_
      simp only [f_0, f_s, f_iconst, f_bipush, f_sipush, f_ldc, f_ldc_w, f_ldc2_w, f_ldI, f_ldL, f_ldA, f_iload, f_iload_n, f_lload, f_lload_n, f_aload, f_aload_n, f_istore, f_istore_n, f_lstore, f_lstore_n, f_astore, f_astore_n, f_iinc, f_icI, f_iadd, f_isub, f_imul, f_idiv, f_irem, f_iand, f_ior, f_ixor, f_ishl, f_ishr, f_iushr, f_i2l, f_i2b, f_i2s, f_ladd, f_lmul, f_lcmp, f_dupI, f_dupR, f_dup2, f_pop, f_goto, f_if, f_icmp, f_tab, f_ts0, f_ts1, f_getI, f_getZ, f_getR, f_putI, f_putR, f_gets, f_iald, f_bald, f_aald, f_iast, f_bast, f_aast, f_alen, f_new, f_newa, f_anew, f_virt, f_stat0, f_stat1, f_spec0, f_spec1, f_spec9, f_copy, f_max, f_min, f_cV1, f_cV0, f_cS1, f_cS0, f_iret, f_lret, f_vret, f_kG, pf0, cIg, inR, lget, lset, lset2, clr, entL, cnd, psh, catS, tsw, List.take_succ_cons, List.take_zero, List.drop_succ_cons, List.drop_zero, List.reverse_cons, List.reverse_nil, List.nil_append, List.cons_append, List.length_cons, List.length_nil, List.replicate_succ, List.replicate_zero, Nat.reduceAdd, Nat.reduceSub, Nat.reduceLeDiff, Nat.reduceLT, Nat.reduceEqDiff, Nat.reduceMul, Nat.zero_add, Nat.add_zero, Nat.le_refl, Nat.zero_le, Int.reduceEq, Int.reduceToNat, Int.toNat_natCast, Int.reduceNeg, Int.reduceAdd, Int.reduceSub, Int.reduceMul, Int.reduceLT, Int.reduceLE, Int.reduceDiv, Int.reduceMod, Bool.false_eq_true, ↓reduceIte, true_and, and_true, implies_true, forall_const, true_or, or_true, or_false, false_or, not_true_eq_false, not_false_eq_true, false_implies, Prod.mk.injEq, Fin.val_zero, Fin.val_one, Fin.isValue, Fin.reduceFinMk, Fin.val_two, mR_uI, mK_uI, mN_uI, mI_uR, mK_uR, mN_uR, mR_uC, mK_uC, mN_uC, Option.some.injEq, Sum.inl.injEq, Sum.inr.injEq, decide_true, decide_false, Bool.or_false, Bool.false_or, Bool.or_true, Bool.true_or, Nat.reduceBEq, beq_self_eq_true, show tb 54 = tb_54 from rfl, tb_54, tb_54_0, tb_54_1, tb_54_2, pfb, pfb_b, pfb_c, pfb_v, pfa_b, pfa_c, pfa_v, hif, c1, c2, c3, k3, r2, r3, r4, r6, hp59]
      refine ⟨⟨hE, d1, d2⟩, by omega, ?_⟩
      refine Ev_mono (e_rappend X M2 59 100 pl.length q qs b.1 hp.1 hp.2.1 ⟨hp.2.2.1, by omega⟩ pq w2 (fun h => by have := hrq _ h; omega) (fun u hu => by have := hrq _ (List.mem_of_getElem? hu); omega)) (fun r M3 hr _ _ => ?_)
      rcases hr with ⟨n1, rfl, rfl⟩ | ⟨u, u1, rfl, u2, u3, u4, u5, u6⟩
      · rw [if_pos n1]
        simp only [f_kG, psh, Nat.reduceAdd]
        refine G_w (pfb_ok X) LK_54 (fun i => i == 9 || i == 51) 20 _ _ _ _ ?_
        simp only [f_0, f_s, f_iconst, f_bipush, f_sipush, f_ldc, f_ldc_w, f_ldc2_w, f_ldI, f_ldL, f_ldA, f_iload, f_iload_n, f_lload, f_lload_n, f_aload, f_aload_n, f_istore, f_istore_n, f_lstore, f_lstore_n, f_astore, f_astore_n, f_iinc, f_icI, f_iadd, f_isub, f_imul, f_idiv, f_irem, f_iand, f_ior, f_ixor, f_ishl, f_ishr, f_iushr, f_i2l, f_i2b, f_i2s, f_ladd, f_lmul, f_lcmp, f_dupI, f_dupR, f_dup2, f_pop, f_goto, f_if, f_icmp, f_tab, f_ts0, f_ts1, f_getI, f_getZ, f_getR, f_putI, f_putR, f_gets, f_iald, f_bald, f_aald, f_iast, f_bast, f_aast, f_alen, f_new, f_newa, f_anew, f_virt, f_stat0, f_stat1, f_spec0, f_spec1, f_spec9, f_copy, f_max, f_min, f_cV1, f_cV0, f_cS1, f_cS0, f_iret, f_lret, f_vret, f_kG, pf0, cIg, inR, lget, lset, lset2, clr, entL, cnd, psh, catS, tsw, List.take_succ_cons, List.take_zero, List.drop_succ_cons, List.drop_zero, List.reverse_cons, List.reverse_nil, List.nil_append, List.cons_append, List.length_cons, List.length_nil, List.replicate_succ, List.replicate_zero, Nat.reduceAdd, Nat.reduceSub, Nat.reduceLeDiff, Nat.reduceLT, Nat.reduceEqDiff, Nat.reduceMul, Nat.zero_add, Nat.add_zero, Nat.le_refl, Nat.zero_le, Int.reduceEq, Int.reduceToNat, Int.toNat_natCast, Int.reduceNeg, Int.reduceAdd, Int.reduceSub, Int.reduceMul, Int.reduceLT, Int.reduceLE, Int.reduceDiv, Int.reduceMod, Bool.false_eq_true, ↓reduceIte, true_and, and_true, implies_true, forall_const, true_or, or_true, or_false, false_or, not_true_eq_false, not_false_eq_true, false_implies, Prod.mk.injEq, Fin.val_zero, Fin.val_one, Fin.isValue, Fin.reduceFinMk, Fin.val_two, mR_uI, mK_uI, mN_uI, mI_uR, mK_uR, mN_uR, mR_uC, mK_uC, mN_uC, Option.some.injEq, Sum.inl.injEq, Sum.inr.injEq, decide_true, decide_false, Bool.or_false, Bool.false_or, Bool.or_true, Bool.true_or, Nat.reduceBEq, beq_self_eq_true, show tb 54 = tb_54 from rfl, tb_54, tb_54_0, tb_54_1, tb_54_2, pfb, pfb_b, pfb_c, pfb_v, pfa_b, pfa_c, pfa_v]
        exact ⟨hS, ps, qs, hW0, hb.1, hp.1, rfl, fun bs' pl' h => by cases h⟩
      · have hru := hrq u (List.mem_of_getElem? u1)
        have hpl : pl.length ≠ 100 := by
          have h1 := (List.getElem?_eq_some_iff.mp u1).1
          have h2 := hp.1.2.2.2.2.1
          omega
        rw [if_neg hpl]
        have hS3 : Smr M2 M3 (CR c) (CQ c) := (u6.smr (CQ c)).w (fun a h => by unfold T3 at h; unfold CR; omega) (fun _ h => h)
        have hp3 := PB_app hp u1 u2 u3 u6 (fun q hq => by have := hrq q hq; omega)
        have hb3 := CB_same hb u6 (by unfold T3; omega) (fun q hq => by have := hrp q hq; unfold T3; omega)
        have hL3 := PL_same hL u6.2.2.2 (by unfold T3; omega) (by unfold T3; omega) (by unfold T3; omega)
        have hW3 := hW0.smr hS3 hrp hrq
        have hW3' := hW3
        obtain ⟨-, -, ⟨x1, x2, -⟩, -⟩ := hW3'
        have x3 := hb3.1.1
        simp only [f_kG, psh, Nat.reduceAdd]
        refine G_w (pfb_ok X) LK_54 (fun i => i == 9 || i == 51) 20 _ _ _ _ ?_
        simp only [f_0, f_s, f_iconst, f_bipush, f_sipush, f_ldc, f_ldc_w, f_ldc2_w, f_ldI, f_ldL, f_ldA, f_iload, f_iload_n, f_lload, f_lload_n, f_aload, f_aload_n, f_istore, f_istore_n, f_lstore, f_lstore_n, f_astore, f_astore_n, f_iinc, f_icI, f_iadd, f_isub, f_imul, f_idiv, f_irem, f_iand, f_ior, f_ixor, f_ishl, f_ishr, f_iushr, f_i2l, f_i2b, f_i2s, f_ladd, f_lmul, f_lcmp, f_dupI, f_dupR, f_dup2, f_pop, f_goto, f_if, f_icmp, f_tab, f_ts0, f_ts1, f_getI, f_getZ, f_getR, f_putI, f_putR, f_gets, f_iald, f_bald, f_aald, f_iast, f_bast, f_aast, f_alen, f_new, f_newa, f_anew, f_virt, f_stat0, f_stat1, f_spec0, f_spec1, f_spec9, f_copy, f_max, f_min, f_cV1, f_cV0, f_cS1, f_cS0, f_iret, f_lret, f_vret, f_kG, pf0, cIg, inR, lget, lset, lset2, clr, entL, cnd, psh, catS, tsw, List.take_succ_cons, List.take_zero, List.drop_succ_cons, List.drop_zero, List.reverse_cons, List.reverse_nil, List.nil_append, List.cons_append, List.length_cons, List.length_nil, List.replicate_succ, List.replicate_zero, Nat.reduceAdd, Nat.reduceSub, Nat.reduceLeDiff, Nat.reduceLT, Nat.reduceEqDiff, Nat.reduceMul, Nat.zero_add, Nat.add_zero, Nat.le_refl, Nat.zero_le, Int.reduceEq, Int.reduceToNat, Int.toNat_natCast, Int.reduceNeg, Int.reduceAdd, Int.reduceSub, Int.reduceMul, Int.reduceLT, Int.reduceLE, Int.reduceDiv, Int.reduceMod, Bool.false_eq_true, ↓reduceIte, true_and, and_true, implies_true, forall_const, true_or, or_true, or_false, false_or, not_true_eq_false, not_false_eq_true, false_implies, Prod.mk.injEq, Fin.val_zero, Fin.val_one, Fin.isValue, Fin.reduceFinMk, Fin.val_two, mR_uI, mK_uI, mN_uI, mI_uR, mK_uR, mN_uR, mR_uC, mK_uC, mN_uC, Option.some.injEq, Sum.inl.injEq, Sum.inr.injEq, decide_true, decide_false, Bool.or_false, Bool.false_or, Bool.or_true, Bool.true_or, Nat.reduceBEq, beq_self_eq_true, show tb 54 = tb_54 from rfl, tb_54, tb_54_0, tb_54_1, tb_54_2, pfb, pfb_b, pfb_c, pfb_v, pfa_b, pfa_c, pfa_v, x1, x2, x3]
        have hlen : (A ++ b :: B).length = A.length + (B.length + 1) := by rw [List.length_append, List.length_cons]
        refine Ev_mono (e_remove X M3 (c + 1) 24 (A ++ b :: B).length A.length ps hb3.1 hb3.2.1 (by omega) ⟨hb3.2.2.1, by omega⟩) (fun r M4 hr _ _ => ?_)
        obtain ⟨rfl, y1, -, y3, y4⟩ := hr
        have hb4 := CB_rot hb3 w1 (by omega) y4 (fun q hq => by have := hrp q hq; omega) y3 y1
        have hS4 : Smr M3 M4 (CR c) (CQ c) := y4.w (fun a h => by unfold CR; omega) (fun a h => by unfold CQ; omega)
        have hp4 := PB_smr hp3 y4 (by omega) (by omega) (by omega) (fun q hq => by have := hrq q hq; omega)
        have hL4 := PL_same hL3 y4.2.2.2 (by omega) (by omega) (by omega)
        have hpm := rot_perm (n := (A ++ b :: B).length) w1 (by omega) (by have := hb.1.2.2.2.2.1; omega)
        have hrp4 : ∀ q ∈ rot ps A.length (A ++ b :: B).length, c + 3 ≤ q ∧ q ≤ c + 72 := fun q hq => hrp q (hpm.mem_iff.mp hq)
        have er : (A ++ b :: B).eraseIdx A.length = A ++ B := by
          rw [List.eraseIdx_append_of_length_le (Nat.le_refl _), Nat.sub_self]; rfl
        rw [er] at hb4
        simp only [f_kG, psh, Nat.reduceAdd]
        refine G_w (pfb_ok X) LK_54 (fun i => i == 9 || i == 51) 20 _ _ _ _ ?_
        simp only [f_0, f_s, f_iconst, f_bipush, f_sipush, f_ldc, f_ldc_w, f_ldc2_w, f_ldI, f_ldL, f_ldA, f_iload, f_iload_n, f_lload, f_lload_n, f_aload, f_aload_n, f_istore, f_istore_n, f_lstore, f_lstore_n, f_astore, f_astore_n, f_iinc, f_icI, f_iadd, f_isub, f_imul, f_idiv, f_irem, f_iand, f_ior, f_ixor, f_ishl, f_ishr, f_iushr, f_i2l, f_i2b, f_i2s, f_ladd, f_lmul, f_lcmp, f_dupI, f_dupR, f_dup2, f_pop, f_goto, f_if, f_icmp, f_tab, f_ts0, f_ts1, f_getI, f_getZ, f_getR, f_putI, f_putR, f_gets, f_iald, f_bald, f_aald, f_iast, f_bast, f_aast, f_alen, f_new, f_newa, f_anew, f_virt, f_stat0, f_stat1, f_spec0, f_spec1, f_spec9, f_copy, f_max, f_min, f_cV1, f_cV0, f_cS1, f_cS0, f_iret, f_lret, f_vret, f_kG, pf0, cIg, inR, lget, lset, lset2, clr, entL, cnd, psh, catS, tsw, List.take_succ_cons, List.take_zero, List.drop_succ_cons, List.drop_zero, List.reverse_cons, List.reverse_nil, List.nil_append, List.cons_append, List.length_cons, List.length_nil, List.replicate_succ, List.replicate_zero, Nat.reduceAdd, Nat.reduceSub, Nat.reduceLeDiff, Nat.reduceLT, Nat.reduceEqDiff, Nat.reduceMul, Nat.zero_add, Nat.add_zero, Nat.le_refl, Nat.zero_le, Int.reduceEq, Int.reduceToNat, Int.toNat_natCast, Int.reduceNeg, Int.reduceAdd, Int.reduceSub, Int.reduceMul, Int.reduceLT, Int.reduceLE, Int.reduceDiv, Int.reduceMod, Bool.false_eq_true, ↓reduceIte, true_and, and_true, implies_true, forall_const, true_or, or_true, or_false, false_or, not_true_eq_false, not_false_eq_true, false_implies, Prod.mk.injEq, Fin.val_zero, Fin.val_one, Fin.isValue, Fin.reduceFinMk, Fin.val_two, mR_uI, mK_uI, mN_uI, mI_uR, mK_uR, mN_uR, mR_uC, mK_uC, mN_uC, Option.some.injEq, Sum.inl.injEq, Sum.inr.injEq, decide_true, decide_false, Bool.or_false, Bool.false_or, Bool.or_true, Bool.true_or, Nat.reduceBEq, beq_self_eq_true, show tb 54 = tb_54 from rfl, tb_54, tb_54_0, tb_54_1, tb_54_2, pfb, pfb_b, pfb_c, pfb_v, pfa_b, pfa_c, pfa_v]
        refine ⟨by omega, ?_⟩
        rw [show ((B.length + 1 : Nat) : Int) + -1 = (B.length : Nat) by omega]
        refine ih A (pl ++ [b.1]) _ qs M4 (hW3.smr hS4 hrp4 hrq) hb4 hp4 hL4 (fun x hx => ?_) ((hS.tr hS3).tr hS4)
        rcases List.mem_append.mp hx with h | h
        · exact hok x (List.mem_append.mpr (Or.inl h))
        · exact hok x (List.mem_append.mpr (Or.inr (List.mem_cons_of_mem _ h)))
    · have hif : (if ex (hd t) 0 ≤ ex (hd b.1) 0 ∧ ex (hd t) 1 ≤ ex (hd b.1) 1 ∧ ex (hd t) 2 ≤ ex (hd b.1) 2 then (1 : Int) else 0) = 0 := if_neg hdv
      have hB : ¬ dvB (hd t) (hd b.1) = true := by unfold dvB; simpa using hdv
      rw [admL, if_neg hB]
      simp only [f_kG, psh, Nat.reduceAdd]
      refine G_w (pfb_ok X) LK_54 (fun i => i == 9 || i == 51) 20 _ _ _ _ ?_
      simp only [f_0, f_s, f_iconst, f_bipush, f_sipush, f_ldc, f_ldc_w, f_ldc2_w, f_ldI, f_ldL, f_ldA, f_iload, f_iload_n, f_lload, f_lload_n, f_aload, f_aload_n, f_istore, f_istore_n, f_lstore, f_lstore_n, f_astore, f_astore_n, f_iinc, f_icI, f_iadd, f_isub, f_imul, f_idiv, f_irem, f_iand, f_ior, f_ixor, f_ishl, f_ishr, f_iushr, f_i2l, f_i2b, f_i2s, f_ladd, f_lmul, f_lcmp, f_dupI, f_dupR, f_dup2, f_pop, f_goto, f_if, f_icmp, f_tab, f_ts0, f_ts1, f_getI, f_getZ, f_getR, f_putI, f_putR, f_gets, f_iald, f_bald, f_aald, f_iast, f_bast, f_aast, f_alen, f_new, f_newa, f_anew, f_virt, f_stat0, f_stat1, f_spec0, f_spec1, f_spec9, f_copy, f_max, f_min, f_cV1, f_cV0, f_cS1, f_cS0, f_iret, f_lret, f_vret, f_kG, pf0, cIg, inR, lget, lset, lset2, clr, entL, cnd, psh, catS, tsw, List.take_succ_cons, List.take_zero, List.drop_succ_cons, List.drop_zero, List.reverse_cons, List.reverse_nil, List.nil_append, List.cons_append, List.length_cons, List.length_nil, List.replicate_succ, List.replicate_zero, Nat.reduceAdd, Nat.reduceSub, Nat.reduceLeDiff, Nat.reduceLT, Nat.reduceEqDiff, Nat.reduceMul, Nat.zero_add, Nat.add_zero, Nat.le_refl, Nat.zero_le, Int.reduceEq, Int.reduceToNat, Int.toNat_natCast, Int.reduceNeg, Int.reduceAdd, Int.reduceSub, Int.reduceMul, Int.reduceLT, Int.reduceLE, Int.reduceDiv, Int.reduceMod, Bool.false_eq_true, ↓reduceIte, true_and, and_true, implies_true, forall_const, true_or, or_true, or_false, false_or, not_true_eq_false, not_false_eq_true, false_implies, Prod.mk.injEq, Fin.val_zero, Fin.val_one, Fin.isValue, Fin.reduceFinMk, Fin.val_two, mR_uI, mK_uI, mN_uI, mI_uR, mK_uR, mN_uR, mR_uC, mK_uC, mN_uC, Option.some.injEq, Sum.inl.injEq, Sum.inr.injEq, decide_true, decide_false, Bool.or_false, Bool.false_or, Bool.or_true, Bool.true_or, Nat.reduceBEq, beq_self_eq_true, show tb 54 = tb_54 from rfl, tb_54, tb_54_0, tb_54_1, tb_54_2, pfb, pfb_b, pfb_c, pfb_v, pfa_b, pfa_c, pfa_v, hif]
      refine ⟨⟨hE, d1, d2⟩, by omega, by omega, ?_⟩
      rw [e2] at hb hok
      have hf := ih (A ++ [b]) pl ps qs M2 hW0 hb hp hL hok hS
      rw [List.length_append] at hf
      rw [show ((B.length + 1 : Nat) : Int) + -1 = (B.length : Nat) by omega]
      exact hf
