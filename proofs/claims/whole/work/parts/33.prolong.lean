/-! prolong -/
def lpr (l : Nat) : Int := if l = 0 then 1024 else if l = 1 then 32 else 1
theorem lpr_pr (l : Nat) : isPr (lpr l) := by unfold lpr isPr; split <;> (try split) <;> omega
def ungd (g s : Int) : Int := iAnd s (iXor g (-1))
def senb (s : Int) (l : Nat) : Int := iOr s (iShl 1 l)
/-- one member's letters -/
def prL : Nat → Nat → Mb → List Po → Int × Mb × List Po
  | 0, _, b, pl => (0, b, pl)
  | k + 1, l, b, pl => if iAnd (iShr (iOr b.2.1 b.2.2) l) 1 = 0 then (if brs b.1 (lpr l) = true then (if pl.length = 100 then (3, b, pl) else prL k (l + 1) (b.1, b.2.1, senb b.2.2 l) (pl ++ [b.1.map (fun t => (t.1, t.2 + lpr l))])) else (2, b, pl)) else prL k (l + 1) b pl
def prF : List Mb → List Mb → List Po → Int × List Mb × List Po
  | [], A, pl => (0, A, pl)
  | b :: B, A, pl => if (prL 3 0 (b.1, b.2.1, ungd b.2.1 b.2.2) pl).1 = 0 then prF B (A ++ [(prL 3 0 (b.1, b.2.1, ungd b.2.1 b.2.2) pl).2.1]) (prL 3 0 (b.1, b.2.1, ungd b.2.1 b.2.2) pl).2.2 else ((prL 3 0 (b.1, b.2.1, ungd b.2.1 b.2.2) pl).1, A ++ (prL 3 0 (b.1, b.2.1, ungd b.2.1 b.2.2) pl).2.1 :: B, (prL 3 0 (b.1, b.2.1, ungd b.2.1 b.2.2) pl).2.2)
def prE (A B : List Mb) (x : Int × Mb × List Po) : Int × List Mb × List Po := if x.1 = 0 then prF B (A ++ [x.2.1]) x.2.2 else (x.1, A ++ x.2.1 :: B, x.2.2)
/-- how prolong ends -/
def PD (M : Mem) (c : Nat) (ps qs : List Nat) (res : Int × List Mb × List Po) (r : Option AV) (M' : Mem) : Prop := Same M M' (CR c) ∧ r = some (aI res.1) ∧ (res.1 = 0 → CB M' (c + 1) 24 ps res.2.1 ∧ PB M' 59 100 qs res.2.2)
theorem CB_set4 {M : Mem} {r cap q : Nat} {ps : List Nat} {A B : List Mb} {b : Mb} {g : Int} (h : CB M r cap ps (A ++ b :: B)) (hq : ps[A.length]? = some q) (hr : ∀ q ∈ ps, r ≠ q) : CB (uI M q 4 g) r cap ps (A ++ (b.1, b.2.1, g) :: B) := by
  obtain ⟨ra, b1, b2, b3⟩ := h
  have hl : (A ++ (b.1, b.2.1, g) :: B).length = (A ++ b :: B).length := by simp
  refine ⟨ra, (mI_uI_ne (hr q (List.mem_of_getElem? hq))).trans (by rw [hl]; exact b1), by rw [hl]; exact b2, fun j x hx => ?_⟩
  have pq := ra.2.2.2.2.2.2.1 q (List.mem_of_getElem? hq)
  by_cases hj : j = A.length
  · subst hj
    rw [at_mid, Option.some.injEq] at hx
    subst hx
    obtain ⟨q', w1, w2, w3, w4⟩ := b3 A.length b (at_mid _ _ _)
    have e : q' = q := Option.some.inj (w1.symm.trans hq)
    subst e
    exact ⟨q', hq, PL_u3 w2 pq pq (by omega), (mI_uI_nk (by omega)).trans w3, mI_uI_eq⟩
  · rw [at_oth A B _ b j hj] at hx
    obtain ⟨q', w1, w2, w3, w4⟩ := b3 j x hx
    have e := nd_ne ra.2.2.2.2.2.2.2 w1 hq hj
    exact ⟨q', w1, PL_u3 w2 (ra.2.2.2.2.2.2.1 q' (List.mem_of_getElem? w1)) pq (by omega), (mI_uI_ne e).trans w3, (mI_uI_ne e).trans w4⟩
set_option maxRecDepth 100000 in
set_option maxHeartbeats 4000000 in
theorem e_prolong (X : CX) (M : Mem) (c : Nat) (o : Int) (ps qs : List Nat) (bs : List Mb) (pl : List Po) (hW : CW M c o ps qs) (hb : CB M (c + 1) 24 ps bs) (hp : PB M 59 100 qs pl) (hok : ∀ b ∈ bs, okP b.1) : Ev X y_Completion_prolong (0, 0) [aR (some c)] M (PD M c ps qs (prF bs [] pl)) := by
  obtain ⟨hE, hcc, hca, ho, ho2, htk, hrp, hrq⟩ := hW
  obtain ⟨c1, c2, c3, c4, c5, c6, c7, c8⟩ := hca
  have loop : ∀ (B A : List Mb) (pl : List Po) (M1 : Mem) (v2 v3 : Option AV), CB M1 (c + 1) 24 ps (A ++ B) → PB M1 59 100 qs pl → (∀ b ∈ B, okP b.1) → Same M M1 (CR c) → G X y_Completion_prolong (mZ M, mS M, 0, 0) 2 [some (aR (some c)), some (aI A.length), v2, v3] [] M1 (PD M c ps qs (prF B A pl)) := by
    intro B
    induction B with
    | nil =>
      intro A pl M1 v2 v3 hb hp hok hS
      have k1 := (hS.1 c).trans c1
      have k2 := (hS.2.2.1 c 0).trans c2
      rw [List.append_nil] at hb
      have k3 := hb.1.1
      have k4 := hb.2.1
      refine G_w (pfb_ok X) LK_58 (fun i => i == 2 || i == 24) 20 _ _ _ _ ?_
      simp only [f_0, f_s, f_iconst, f_bipush, f_sipush, f_ldc, f_ldc_w, f_ldc2_w, f_ldI, f_ldL, f_ldA, f_iload, f_iload_n, f_lload, f_lload_n, f_aload, f_aload_n, f_istore, f_istore_n, f_lstore, f_lstore_n, f_astore, f_astore_n, f_iinc, f_icI, f_iadd, f_isub, f_imul, f_idiv, f_irem, f_iand, f_ior, f_ixor, f_ishl, f_ishr, f_iushr, f_i2l, f_i2b, f_i2s, f_ladd, f_lmul, f_lcmp, f_dupI, f_dupR, f_dup2, f_pop, f_goto, f_if, f_icmp, f_tab, f_ts0, f_ts1, f_getI, f_getZ, f_getR, f_putI, f_putR, f_gets, f_iald, f_bald, f_aald, f_iast, f_bast, f_aast, f_alen, f_new, f_newa, f_anew, f_virt, f_stat0, f_stat1, f_spec0, f_spec1, f_spec9, f_copy, f_max, f_min, f_cV1, f_cV0, f_cS1, f_cS0, f_iret, f_lret, f_vret, f_kG, pf0, cIg, inR, lget, lset, lset2, clr, entL, cnd, psh, catS, tsw, List.take_succ_cons, List.take_zero, List.drop_succ_cons, List.drop_zero, List.reverse_cons, List.reverse_nil, List.nil_append, List.cons_append, List.length_cons, List.length_nil, List.replicate_succ, List.replicate_zero, Nat.reduceAdd, Nat.reduceSub, Nat.reduceLeDiff, Nat.reduceLT, Nat.reduceEqDiff, Nat.reduceMul, Nat.zero_add, Nat.add_zero, Nat.le_refl, Nat.zero_le, Int.reduceEq, Int.reduceToNat, Int.toNat_natCast, Int.reduceNeg, Int.reduceAdd, Int.reduceSub, Int.reduceMul, Int.reduceLT, Int.reduceLE, Int.reduceDiv, Int.reduceMod, Bool.false_eq_true, ↓reduceIte, true_and, and_true, implies_true, forall_const, true_or, or_true, or_false, false_or, not_true_eq_false, not_false_eq_true, false_implies, Prod.mk.injEq, Fin.val_zero, Fin.val_one, Fin.isValue, Fin.reduceFinMk, Fin.val_two, mR_uI, mK_uI, mN_uI, mI_uR, mK_uR, mN_uR, mR_uC, mK_uC, mN_uC, Option.some.injEq, Sum.inl.injEq, Sum.inr.injEq, decide_true, decide_false, Bool.or_false, Bool.false_or, Bool.or_true, Bool.true_or, Nat.reduceBEq, beq_self_eq_true, show tb 58 = tb_58 from rfl, tb_58, tb_58_0, tb_58_1, tb_58_2, pfb, pfb_b, pfb_c, pfb_v, pfa_b, pfa_c, pfa_v, k1, k2, k3, k4]
      (repeat' (first | with_reducible apply And.intro | with_reducible intro _)) <;> (try omega)
      all_goals exact ⟨hS, rfl, fun _ => ⟨hb, hp⟩⟩
    | cons b B ih =>
      intro A pl M1 v2 v3 hb hp hok hS
      have k1 := (hS.1 c).trans c1
      have k2 := (hS.2.2.1 c 0).trans c2
      have k3 := hb.1.1
      have k4 := hb.2.1
      have k5 := hb.1.2.1
      have k6 := hb.1.2.2.1
      have k7 := hb.1.2.2.2.1
      rw [List.length_append, List.length_cons] at k4
      have k9 := hb.2.2.1
      rw [List.length_append, List.length_cons] at k9
      obtain ⟨q, w1, w2, w3, w4⟩ := hb.2.2.2 _ _ (at_mid A B b)
      have k8 := hb.1.2.2.2.2.2.1 _ _ w1
      have kq := hb.1.2.2.2.2.2.2.1 q (List.mem_of_getElem? w1)
      have hrb := hrp q (List.mem_of_getElem? w1)
      have kq1 := kq.1
      have okb := hok b List.mem_cons_self
      have hokB : ∀ x ∈ B, okP x.1 := fun x hx => hok x (List.mem_cons_of_mem _ hx)
      have inner : ∀ (k l : Nat) (g s : Int) (pl : List Po) (M1 : Mem), l + k = 3 → CB M1 (c + 1) 24 ps (A ++ (b.1, g, s) :: B) → PB M1 59 100 qs pl → Same M M1 (CR c) → G X y_Completion_prolong (mZ M, mS M, 0, 0) 24 [some (aR (some c)), some (aI A.length), some (aR (some q)), some (aI l)] [] M1 (PD M c ps qs (prE A B (prL k l (b.1, g, s) pl))) := by
        intro k
        induction k with
        | zero =>
          intro l g s pl M1 hl hb hp hS
          refine G_w (pfb_ok X) LK_58 (fun i => i == 2 || i == 24) 20 _ _ _ _ ?_
          simp only [f_0, f_s, f_iconst, f_bipush, f_sipush, f_ldc, f_ldc_w, f_ldc2_w, f_ldI, f_ldL, f_ldA, f_iload, f_iload_n, f_lload, f_lload_n, f_aload, f_aload_n, f_istore, f_istore_n, f_lstore, f_lstore_n, f_astore, f_astore_n, f_iinc, f_icI, f_iadd, f_isub, f_imul, f_idiv, f_irem, f_iand, f_ior, f_ixor, f_ishl, f_ishr, f_iushr, f_i2l, f_i2b, f_i2s, f_ladd, f_lmul, f_lcmp, f_dupI, f_dupR, f_dup2, f_pop, f_goto, f_if, f_icmp, f_tab, f_ts0, f_ts1, f_getI, f_getZ, f_getR, f_putI, f_putR, f_gets, f_iald, f_bald, f_aald, f_iast, f_bast, f_aast, f_alen, f_new, f_newa, f_anew, f_virt, f_stat0, f_stat1, f_spec0, f_spec1, f_spec9, f_copy, f_max, f_min, f_cV1, f_cV0, f_cS1, f_cS0, f_iret, f_lret, f_vret, f_kG, pf0, cIg, inR, lget, lset, lset2, clr, entL, cnd, psh, catS, tsw, List.take_succ_cons, List.take_zero, List.drop_succ_cons, List.drop_zero, List.reverse_cons, List.reverse_nil, List.nil_append, List.cons_append, List.length_cons, List.length_nil, List.replicate_succ, List.replicate_zero, Nat.reduceAdd, Nat.reduceSub, Nat.reduceLeDiff, Nat.reduceLT, Nat.reduceEqDiff, Nat.reduceMul, Nat.zero_add, Nat.add_zero, Nat.le_refl, Nat.zero_le, Int.reduceEq, Int.reduceToNat, Int.toNat_natCast, Int.reduceNeg, Int.reduceAdd, Int.reduceSub, Int.reduceMul, Int.reduceLT, Int.reduceLE, Int.reduceDiv, Int.reduceMod, Bool.false_eq_true, ↓reduceIte, true_and, and_true, implies_true, forall_const, true_or, or_true, or_false, false_or, not_true_eq_false, not_false_eq_true, false_implies, Prod.mk.injEq, Fin.val_zero, Fin.val_one, Fin.isValue, Fin.reduceFinMk, Fin.val_two, mR_uI, mK_uI, mN_uI, mI_uR, mK_uR, mN_uR, mR_uC, mK_uC, mN_uC, Option.some.injEq, Sum.inl.injEq, Sum.inr.injEq, decide_true, decide_false, Bool.or_false, Bool.false_or, Bool.or_true, Bool.true_or, Nat.reduceBEq, beq_self_eq_true, show tb 58 = tb_58 from rfl, tb_58, tb_58_0, tb_58_1, tb_58_2, pfb, pfb_b, pfb_c, pfb_v, pfa_b, pfa_c, pfa_v]
          refine ⟨fun _ => ⟨by omega, ?_⟩, fun h => by omega⟩
          have e2 : A ++ (b.1, g, s) :: B = (A ++ [(b.1, g, s)]) ++ B := by rw [List.append_assoc]; rfl
          rw [e2] at hb
          have hf := ih (A ++ [(b.1, g, s)]) pl M1 (some (aR (some q))) (some (aI l)) hb hp hokB hS
          rw [List.length_append] at hf
          exact hf
        | succ k ihk =>
          intro l g s pl M1 hl hb hp hS
          have hE1 := hS.ext hE (fun a ha => by have := big_gt; unfold CR; omega)
          have hE1' := hE1
          obtain ⟨-, -, -, -, -, a6, a7, a8, a9, a10, -⟩ := hE1'
          have a11 : mI M1 (BIG + 1) l = lpr l := by
            unfold lpr
            rcases (show l = 0 ∨ l = 1 ∨ l = 2 by omega) with rfl | rfl | rfl
            · exact a8
            · exact a9
            · exact a10
          have k1 := (hS.1 c).trans c1
          have k2 := (hS.2.2.1 c 3).trans c3
          have k3 := hp.1.1
          obtain ⟨q', w1', z2, z3, z4⟩ := hb.2.2.2 _ _ (at_mid A B (b.1, g, s))
          have e : q' = q := Option.some.inj (w1'.symm.trans w1)
          subst e
          have pq := hb.1.2.2.2.2.2.2.1 q' (List.mem_of_getElem? w1)
          have pq1 := pq.1
          by_cases hfr : iAnd (iShr (iOr g s) l) 1 = 0
          · refine G_w (pfb_ok X) LK_58 (fun i => i == 2 || i == 24) 20 _ _ _ _ ?_
            simp only [f_0, f_s, f_iconst, f_bipush, f_sipush, f_ldc, f_ldc_w, f_ldc2_w, f_ldI, f_ldL, f_ldA, f_iload, f_iload_n, f_lload, f_lload_n, f_aload, f_aload_n, f_istore, f_istore_n, f_lstore, f_lstore_n, f_astore, f_astore_n, f_iinc, f_icI, f_iadd, f_isub, f_imul, f_idiv, f_irem, f_iand, f_ior, f_ixor, f_ishl, f_ishr, f_iushr, f_i2l, f_i2b, f_i2s, f_ladd, f_lmul, f_lcmp, f_dupI, f_dupR, f_dup2, f_pop, f_goto, f_if, f_icmp, f_tab, f_ts0, f_ts1, f_getI, f_getZ, f_getR, f_putI, f_putR, f_gets, f_iald, f_bald, f_aald, f_iast, f_bast, f_aast, f_alen, f_new, f_newa, f_anew, f_virt, f_stat0, f_stat1, f_spec0, f_spec1, f_spec9, f_copy, f_max, f_min, f_cV1, f_cV0, f_cS1, f_cS0, f_iret, f_lret, f_vret, f_kG, pf0, cIg, inR, lget, lset, lset2, clr, entL, cnd, psh, catS, tsw, List.take_succ_cons, List.take_zero, List.drop_succ_cons, List.drop_zero, List.reverse_cons, List.reverse_nil, List.nil_append, List.cons_append, List.length_cons, List.length_nil, List.replicate_succ, List.replicate_zero, Nat.reduceAdd, Nat.reduceSub, Nat.reduceLeDiff, Nat.reduceLT, Nat.reduceEqDiff, Nat.reduceMul, Nat.zero_add, Nat.add_zero, Nat.le_refl, Nat.zero_le, Int.reduceEq, Int.reduceToNat, Int.toNat_natCast, Int.reduceNeg, Int.reduceAdd, Int.reduceSub, Int.reduceMul, Int.reduceLT, Int.reduceLE, Int.reduceDiv, Int.reduceMod, Bool.false_eq_true, ↓reduceIte, true_and, and_true, implies_true, forall_const, true_or, or_true, or_false, false_or, not_true_eq_false, not_false_eq_true, false_implies, Prod.mk.injEq, Fin.val_zero, Fin.val_one, Fin.isValue, Fin.reduceFinMk, Fin.val_two, mR_uI, mK_uI, mN_uI, mI_uR, mK_uR, mN_uR, mR_uC, mK_uC, mN_uC, Option.some.injEq, Sum.inl.injEq, Sum.inr.injEq, decide_true, decide_false, Bool.or_false, Bool.false_or, Bool.or_true, Bool.true_or, Nat.reduceBEq, beq_self_eq_true, show tb 58 = tb_58 from rfl, tb_58, tb_58_0, tb_58_1, tb_58_2, pfb, pfb_b, pfb_c, pfb_v, pfa_b, pfa_c, pfa_v, pq1, z3, z4, hfr, a6, a7, a11]
            refine ⟨fun h => by omega, fun _ => ⟨by omega, ?_⟩⟩
            refine Ev_mono (e_bears X M1 q' (lpr l) b.1 hE1 pq z2 okb (lpr_pr l)) (fun r M2 hr _ _ => ?_)
            obtain ⟨rfl, rfl⟩ := hr
            rw [prL, if_pos hfr]
            by_cases hbr : brs b.1 (lpr l) = true
            · rw [if_pos hbr]
              simp only [if_pos hbr]
              simp only [f_kG, psh, Nat.reduceAdd]
              refine G_w (pfb_ok X) LK_58 (fun i => i == 2 || i == 24) 20 _ _ _ _ ?_
              simp only [f_0, f_s, f_iconst, f_bipush, f_sipush, f_ldc, f_ldc_w, f_ldc2_w, f_ldI, f_ldL, f_ldA, f_iload, f_iload_n, f_lload, f_lload_n, f_aload, f_aload_n, f_istore, f_istore_n, f_lstore, f_lstore_n, f_astore, f_astore_n, f_iinc, f_icI, f_iadd, f_isub, f_imul, f_idiv, f_irem, f_iand, f_ior, f_ixor, f_ishl, f_ishr, f_iushr, f_i2l, f_i2b, f_i2s, f_ladd, f_lmul, f_lcmp, f_dupI, f_dupR, f_dup2, f_pop, f_goto, f_if, f_icmp, f_tab, f_ts0, f_ts1, f_getI, f_getZ, f_getR, f_putI, f_putR, f_gets, f_iald, f_bald, f_aald, f_iast, f_bast, f_aast, f_alen, f_new, f_newa, f_anew, f_virt, f_stat0, f_stat1, f_spec0, f_spec1, f_spec9, f_copy, f_max, f_min, f_cV1, f_cV0, f_cS1, f_cS0, f_iret, f_lret, f_vret, f_kG, pf0, cIg, inR, lget, lset, lset2, clr, entL, cnd, psh, catS, tsw, List.take_succ_cons, List.take_zero, List.drop_succ_cons, List.drop_zero, List.reverse_cons, List.reverse_nil, List.nil_append, List.cons_append, List.length_cons, List.length_nil, List.replicate_succ, List.replicate_zero, Nat.reduceAdd, Nat.reduceSub, Nat.reduceLeDiff, Nat.reduceLT, Nat.reduceEqDiff, Nat.reduceMul, Nat.zero_add, Nat.add_zero, Nat.le_refl, Nat.zero_le, Int.reduceEq, Int.reduceToNat, Int.toNat_natCast, Int.reduceNeg, Int.reduceAdd, Int.reduceSub, Int.reduceMul, Int.reduceLT, Int.reduceLE, Int.reduceDiv, Int.reduceMod, Bool.false_eq_true, ↓reduceIte, true_and, and_true, implies_true, forall_const, true_or, or_true, or_false, false_or, not_true_eq_false, not_false_eq_true, false_implies, Prod.mk.injEq, Fin.val_zero, Fin.val_one, Fin.isValue, Fin.reduceFinMk, Fin.val_two, mR_uI, mK_uI, mN_uI, mI_uR, mK_uR, mN_uR, mR_uC, mK_uC, mN_uC, Option.some.injEq, Sum.inl.injEq, Sum.inr.injEq, decide_true, decide_false, Bool.or_false, Bool.false_or, Bool.or_true, Bool.true_or, Nat.reduceBEq, beq_self_eq_true, show tb 58 = tb_58 from rfl, tb_58, tb_58_0, tb_58_1, tb_58_2, pfb, pfb_b, pfb_c, pfb_v, pfa_b, pfa_c, pfa_v, k1, k2, k3]
              refine Ev_mono (e_rappend X M2 59 100 pl.length q' qs b.1 hp.1 hp.2.1 ⟨hp.2.2.1, by omega⟩ pq z2 (fun h => by have := hrq _ h; omega) (fun u hu => by have := hrq _ (List.mem_of_getElem? hu); omega)) (fun r M3 hr _ _ => ?_)
              rcases hr with ⟨n1, rfl, rfl⟩ | ⟨u, u1, rfl, u2, u3, u4, u5, u6⟩
              · rw [if_pos n1]
                simp only [f_kG, psh, Nat.reduceAdd]
                refine G_w (pfb_ok X) LK_58 (fun i => i == 2 || i == 24) 20 _ _ _ _ ?_
                simp only [f_0, f_s, f_iconst, f_bipush, f_sipush, f_ldc, f_ldc_w, f_ldc2_w, f_ldI, f_ldL, f_ldA, f_iload, f_iload_n, f_lload, f_lload_n, f_aload, f_aload_n, f_istore, f_istore_n, f_lstore, f_lstore_n, f_astore, f_astore_n, f_iinc, f_icI, f_iadd, f_isub, f_imul, f_idiv, f_irem, f_iand, f_ior, f_ixor, f_ishl, f_ishr, f_iushr, f_i2l, f_i2b, f_i2s, f_ladd, f_lmul, f_lcmp, f_dupI, f_dupR, f_dup2, f_pop, f_goto, f_if, f_icmp, f_tab, f_ts0, f_ts1, f_getI, f_getZ, f_getR, f_putI, f_putR, f_gets, f_iald, f_bald, f_aald, f_iast, f_bast, f_aast, f_alen, f_new, f_newa, f_anew, f_virt, f_stat0, f_stat1, f_spec0, f_spec1, f_spec9, f_copy, f_max, f_min, f_cV1, f_cV0, f_cS1, f_cS0, f_iret, f_lret, f_vret, f_kG, pf0, cIg, inR, lget, lset, lset2, clr, entL, cnd, psh, catS, tsw, List.take_succ_cons, List.take_zero, List.drop_succ_cons, List.drop_zero, List.reverse_cons, List.reverse_nil, List.nil_append, List.cons_append, List.length_cons, List.length_nil, List.replicate_succ, List.replicate_zero, Nat.reduceAdd, Nat.reduceSub, Nat.reduceLeDiff, Nat.reduceLT, Nat.reduceEqDiff, Nat.reduceMul, Nat.zero_add, Nat.add_zero, Nat.le_refl, Nat.zero_le, Int.reduceEq, Int.reduceToNat, Int.toNat_natCast, Int.reduceNeg, Int.reduceAdd, Int.reduceSub, Int.reduceMul, Int.reduceLT, Int.reduceLE, Int.reduceDiv, Int.reduceMod, Bool.false_eq_true, ↓reduceIte, true_and, and_true, implies_true, forall_const, true_or, or_true, or_false, false_or, not_true_eq_false, not_false_eq_true, false_implies, Prod.mk.injEq, Fin.val_zero, Fin.val_one, Fin.isValue, Fin.reduceFinMk, Fin.val_two, mR_uI, mK_uI, mN_uI, mI_uR, mK_uR, mN_uR, mR_uC, mK_uC, mN_uC, Option.some.injEq, Sum.inl.injEq, Sum.inr.injEq, decide_true, decide_false, Bool.or_false, Bool.false_or, Bool.or_true, Bool.true_or, Nat.reduceBEq, beq_self_eq_true, show tb 58 = tb_58 from rfl, tb_58, tb_58_0, tb_58_1, tb_58_2, pfb, pfb_b, pfb_c, pfb_v, pfa_b, pfa_c, pfa_v]
                exact ⟨hS, rfl, fun h => by cases h⟩
              · have hru := hrq u (List.mem_of_getElem? u1)
                have hul := (List.getElem?_eq_some_iff.mp u1).1
                have hql := hp.1.2.2.2.2.1
                rw [if_neg (by omega)]
                have x1 := (u6.1 c).trans k1
                have x2 := (u6.2.2.1 c 3).trans k2
                have x3 := (u6.1 59).trans k3
                have x4 := (u6.2.2.1 59 0).trans hp.1.2.1
                have x5 := (u6.1 60).trans hp.1.2.2.1
                have x6 := (u6.2.1 60).trans hp.1.2.2.2.1
                have x7 := (u6.2.2.1 60 _).trans (hp.1.2.2.2.2.2.1 _ _ u1)
                have x8 : (pl.length : Int) + 1 - 1 = pl.length := by omega
                have pu := u6.pa (hp.1.2.2.2.2.2.2.1 u (List.mem_of_getElem? u1))
                have pu1 := pu.1
                have y1 := (u6.1 (BIG + 1)).trans a6
                have y2 := (u6.2.1 (BIG + 1)).trans a7
                have y3 : mI M3 (BIG + 1) l = lpr l := (u6.2.2.2 _ _ (by have := big_gt; unfold T3; omega)).trans a11
                simp only [f_kG, psh, Nat.reduceAdd]
                refine G_w (pfb_ok X) LK_58 (fun i => i == 2 || i == 24) 20 _ _ _ _ ?_
                simp only [f_0, f_s, f_iconst, f_bipush, f_sipush, f_ldc, f_ldc_w, f_ldc2_w, f_ldI, f_ldL, f_ldA, f_iload, f_iload_n, f_lload, f_lload_n, f_aload, f_aload_n, f_istore, f_istore_n, f_lstore, f_lstore_n, f_astore, f_astore_n, f_iinc, f_icI, f_iadd, f_isub, f_imul, f_idiv, f_irem, f_iand, f_ior, f_ixor, f_ishl, f_ishr, f_iushr, f_i2l, f_i2b, f_i2s, f_ladd, f_lmul, f_lcmp, f_dupI, f_dupR, f_dup2, f_pop, f_goto, f_if, f_icmp, f_tab, f_ts0, f_ts1, f_getI, f_getZ, f_getR, f_putI, f_putR, f_gets, f_iald, f_bald, f_aald, f_iast, f_bast, f_aast, f_alen, f_new, f_newa, f_anew, f_virt, f_stat0, f_stat1, f_spec0, f_spec1, f_spec9, f_copy, f_max, f_min, f_cV1, f_cV0, f_cS1, f_cS0, f_iret, f_lret, f_vret, f_kG, pf0, cIg, inR, lget, lset, lset2, clr, entL, cnd, psh, catS, tsw, List.take_succ_cons, List.take_zero, List.drop_succ_cons, List.drop_zero, List.reverse_cons, List.reverse_nil, List.nil_append, List.cons_append, List.length_cons, List.length_nil, List.replicate_succ, List.replicate_zero, Nat.reduceAdd, Nat.reduceSub, Nat.reduceLeDiff, Nat.reduceLT, Nat.reduceEqDiff, Nat.reduceMul, Nat.zero_add, Nat.add_zero, Nat.le_refl, Nat.zero_le, Int.reduceEq, Int.reduceToNat, Int.toNat_natCast, Int.reduceNeg, Int.reduceAdd, Int.reduceSub, Int.reduceMul, Int.reduceLT, Int.reduceLE, Int.reduceDiv, Int.reduceMod, Bool.false_eq_true, ↓reduceIte, true_and, and_true, implies_true, forall_const, true_or, or_true, or_false, false_or, not_true_eq_false, not_false_eq_true, false_implies, Prod.mk.injEq, Fin.val_zero, Fin.val_one, Fin.isValue, Fin.reduceFinMk, Fin.val_two, mR_uI, mK_uI, mN_uI, mI_uR, mK_uR, mN_uR, mR_uC, mK_uC, mN_uC, Option.some.injEq, Sum.inl.injEq, Sum.inr.injEq, decide_true, decide_false, Bool.or_false, Bool.false_or, Bool.or_true, Bool.true_or, Nat.reduceBEq, beq_self_eq_true, show tb 58 = tb_58 from rfl, tb_58, tb_58_0, tb_58_1, tb_58_2, pfb, pfb_b, pfb_c, pfb_v, pfa_b, pfa_c, pfa_v, x1, x2, x3, x4, x5, x6, u2, x8, x7, pu1, y1, y2, y3]
                refine ⟨by omega, by omega, by omega, ?_⟩
                refine Ev_mono (e_multiply X M3 u (lpr l) b.1 pu u3 okb (lpr_pr l)) (fun r M4 hr _ _ => ?_)
                obtain ⟨rfl, v1, v2⟩ := hr
                have hS34 : Same M2 M4 (fun a => a = 59 ∨ T3 u a) := u6.tr (v2.w (fun a h => by unfold T3; omega))
                have hp4 := PB_app hp u1 ((v2.2.2.2 59 1 (by omega)).trans u2) v1 hS34 (fun q hq => by have := hrq q hq; omega)
                have hb4 := CB_same hb hS34 (by unfold T3; omega) (fun q hq => by have := hrp q hq; unfold T3; omega)
                have z5 := (hS34.1 q').trans pq1
                have z6 := (hS34.2.2.2 q' 4 (by unfold T3; omega)).trans z4
                simp only [f_kG, psh, Nat.reduceAdd]
                refine G_w (pfb_ok X) LK_58 (fun i => i == 2 || i == 24) 20 _ _ _ _ ?_
                simp only [f_0, f_s, f_iconst, f_bipush, f_sipush, f_ldc, f_ldc_w, f_ldc2_w, f_ldI, f_ldL, f_ldA, f_iload, f_iload_n, f_lload, f_lload_n, f_aload, f_aload_n, f_istore, f_istore_n, f_lstore, f_lstore_n, f_astore, f_astore_n, f_iinc, f_icI, f_iadd, f_isub, f_imul, f_idiv, f_irem, f_iand, f_ior, f_ixor, f_ishl, f_ishr, f_iushr, f_i2l, f_i2b, f_i2s, f_ladd, f_lmul, f_lcmp, f_dupI, f_dupR, f_dup2, f_pop, f_goto, f_if, f_icmp, f_tab, f_ts0, f_ts1, f_getI, f_getZ, f_getR, f_putI, f_putR, f_gets, f_iald, f_bald, f_aald, f_iast, f_bast, f_aast, f_alen, f_new, f_newa, f_anew, f_virt, f_stat0, f_stat1, f_spec0, f_spec1, f_spec9, f_copy, f_max, f_min, f_cV1, f_cV0, f_cS1, f_cS0, f_iret, f_lret, f_vret, f_kG, pf0, cIg, inR, lget, lset, lset2, clr, entL, cnd, psh, catS, tsw, List.take_succ_cons, List.take_zero, List.drop_succ_cons, List.drop_zero, List.reverse_cons, List.reverse_nil, List.nil_append, List.cons_append, List.length_cons, List.length_nil, List.replicate_succ, List.replicate_zero, Nat.reduceAdd, Nat.reduceSub, Nat.reduceLeDiff, Nat.reduceLT, Nat.reduceEqDiff, Nat.reduceMul, Nat.zero_add, Nat.add_zero, Nat.le_refl, Nat.zero_le, Int.reduceEq, Int.reduceToNat, Int.toNat_natCast, Int.reduceNeg, Int.reduceAdd, Int.reduceSub, Int.reduceMul, Int.reduceLT, Int.reduceLE, Int.reduceDiv, Int.reduceMod, Bool.false_eq_true, ↓reduceIte, true_and, and_true, implies_true, forall_const, true_or, or_true, or_false, false_or, not_true_eq_false, not_false_eq_true, false_implies, Prod.mk.injEq, Fin.val_zero, Fin.val_one, Fin.isValue, Fin.reduceFinMk, Fin.val_two, mR_uI, mK_uI, mN_uI, mI_uR, mK_uR, mN_uR, mR_uC, mK_uC, mN_uC, Option.some.injEq, Sum.inl.injEq, Sum.inr.injEq, decide_true, decide_false, Bool.or_false, Bool.false_or, Bool.or_true, Bool.true_or, Nat.reduceBEq, beq_self_eq_true, show tb 58 = tb_58 from rfl, tb_58, tb_58_0, tb_58_1, tb_58_2, pfb, pfb_b, pfb_c, pfb_v, pfa_b, pfa_c, pfa_v, z5, z6]
                refine ⟨by omega, ?_⟩
                exact ihk (l + 1) g _ _ _ (by omega) (CB_set4 hb4 w1 (fun q hq => by have := hrp q hq; omega)) (PB_same hp4 ((Same.rf M4 (fun a => a = q')).uI rfl 4 _) (by omega) (fun x hx => by have := hrq x hx; omega)) ((hS.tr (hS34.w (fun a h => by unfold T3 at h; unfold CR; omega))).uI (by unfold CR; omega) 4 _)
            · rw [if_neg hbr]
              simp only [if_neg hbr]
              simp only [f_kG, psh, Nat.reduceAdd]
              refine G_w (pfb_ok X) LK_58 (fun i => i == 2 || i == 24) 20 _ _ _ _ ?_
              simp only [f_0, f_s, f_iconst, f_bipush, f_sipush, f_ldc, f_ldc_w, f_ldc2_w, f_ldI, f_ldL, f_ldA, f_iload, f_iload_n, f_lload, f_lload_n, f_aload, f_aload_n, f_istore, f_istore_n, f_lstore, f_lstore_n, f_astore, f_astore_n, f_iinc, f_icI, f_iadd, f_isub, f_imul, f_idiv, f_irem, f_iand, f_ior, f_ixor, f_ishl, f_ishr, f_iushr, f_i2l, f_i2b, f_i2s, f_ladd, f_lmul, f_lcmp, f_dupI, f_dupR, f_dup2, f_pop, f_goto, f_if, f_icmp, f_tab, f_ts0, f_ts1, f_getI, f_getZ, f_getR, f_putI, f_putR, f_gets, f_iald, f_bald, f_aald, f_iast, f_bast, f_aast, f_alen, f_new, f_newa, f_anew, f_virt, f_stat0, f_stat1, f_spec0, f_spec1, f_spec9, f_copy, f_max, f_min, f_cV1, f_cV0, f_cS1, f_cS0, f_iret, f_lret, f_vret, f_kG, pf0, cIg, inR, lget, lset, lset2, clr, entL, cnd, psh, catS, tsw, List.take_succ_cons, List.take_zero, List.drop_succ_cons, List.drop_zero, List.reverse_cons, List.reverse_nil, List.nil_append, List.cons_append, List.length_cons, List.length_nil, List.replicate_succ, List.replicate_zero, Nat.reduceAdd, Nat.reduceSub, Nat.reduceLeDiff, Nat.reduceLT, Nat.reduceEqDiff, Nat.reduceMul, Nat.zero_add, Nat.add_zero, Nat.le_refl, Nat.zero_le, Int.reduceEq, Int.reduceToNat, Int.toNat_natCast, Int.reduceNeg, Int.reduceAdd, Int.reduceSub, Int.reduceMul, Int.reduceLT, Int.reduceLE, Int.reduceDiv, Int.reduceMod, Bool.false_eq_true, ↓reduceIte, true_and, and_true, implies_true, forall_const, true_or, or_true, or_false, false_or, not_true_eq_false, not_false_eq_true, false_implies, Prod.mk.injEq, Fin.val_zero, Fin.val_one, Fin.isValue, Fin.reduceFinMk, Fin.val_two, mR_uI, mK_uI, mN_uI, mI_uR, mK_uR, mN_uR, mR_uC, mK_uC, mN_uC, Option.some.injEq, Sum.inl.injEq, Sum.inr.injEq, decide_true, decide_false, Bool.or_false, Bool.false_or, Bool.or_true, Bool.true_or, Nat.reduceBEq, beq_self_eq_true, show tb 58 = tb_58 from rfl, tb_58, tb_58_0, tb_58_1, tb_58_2, pfb, pfb_b, pfb_c, pfb_v, pfa_b, pfa_c, pfa_v]
              exact ⟨hS, rfl, fun h => by cases h⟩
          · refine G_w (pfb_ok X) LK_58 (fun i => i == 2 || i == 24) 20 _ _ _ _ ?_
            simp only [f_0, f_s, f_iconst, f_bipush, f_sipush, f_ldc, f_ldc_w, f_ldc2_w, f_ldI, f_ldL, f_ldA, f_iload, f_iload_n, f_lload, f_lload_n, f_aload, f_aload_n, f_istore, f_istore_n, f_lstore, f_lstore_n, f_astore, f_astore_n, f_iinc, f_icI, f_iadd, f_isub, f_imul, f_idiv, f_irem, f_iand, f_ior, f_ixor, f_ishl, f_ishr, f_iushr, f_i2l, f_i2b, f_i2s, f_ladd, f_lmul, f_lcmp, f_dupI, f_dupR, f_dup2, f_pop, f_goto, f_if, f_icmp, f_tab, f_ts0, f_ts1, f_getI, f_getZ, f_getR, f_putI, f_putR, f_gets, f_iald, f_bald, f_aald, f_iast, f_bast, f_aast, f_alen, f_new, f_newa, f_anew, f_virt, f_stat0, f_stat1, f_spec0, f_spec1, f_spec9, f_copy, f_max, f_min, f_cV1, f_cV0, f_cS1, f_cS0, f_iret, f_lret, f_vret, f_kG, pf0, cIg, inR, lget, lset, lset2, clr, entL, cnd, psh, catS, tsw, List.take_succ_cons, List.take_zero, List.drop_succ_cons, List.drop_zero, List.reverse_cons, List.reverse_nil, List.nil_append, List.cons_append, List.length_cons, List.length_nil, List.replicate_succ, List.replicate_zero, Nat.reduceAdd, Nat.reduceSub, Nat.reduceLeDiff, Nat.reduceLT, Nat.reduceEqDiff, Nat.reduceMul, Nat.zero_add, Nat.add_zero, Nat.le_refl, Nat.zero_le, Int.reduceEq, Int.reduceToNat, Int.toNat_natCast, Int.reduceNeg, Int.reduceAdd, Int.reduceSub, Int.reduceMul, Int.reduceLT, Int.reduceLE, Int.reduceDiv, Int.reduceMod, Bool.false_eq_true, ↓reduceIte, true_and, and_true, implies_true, forall_const, true_or, or_true, or_false, false_or, not_true_eq_false, not_false_eq_true, false_implies, Prod.mk.injEq, Fin.val_zero, Fin.val_one, Fin.isValue, Fin.reduceFinMk, Fin.val_two, mR_uI, mK_uI, mN_uI, mI_uR, mK_uR, mN_uR, mR_uC, mK_uC, mN_uC, Option.some.injEq, Sum.inl.injEq, Sum.inr.injEq, decide_true, decide_false, Bool.or_false, Bool.false_or, Bool.or_true, Bool.true_or, Nat.reduceBEq, beq_self_eq_true, show tb 58 = tb_58 from rfl, tb_58, tb_58_0, tb_58_1, tb_58_2, pfb, pfb_b, pfb_c, pfb_v, pfa_b, pfa_c, pfa_v, pq1, z3, z4, hfr, a6, a7, a11]
            refine ⟨fun h => by omega, fun _ => ⟨by omega, ?_⟩⟩
            rw [prL, if_neg hfr]
            exact ihk (l + 1) g s pl M1 (by omega) hb hp hS
      refine G_w (pfb_ok X) LK_58 (fun i => i == 2 || i == 24) 24 _ _ _ _ ?_
      simp only [f_0, f_s, f_iconst, f_bipush, f_sipush, f_ldc, f_ldc_w, f_ldc2_w, f_ldI, f_ldL, f_ldA, f_iload, f_iload_n, f_lload, f_lload_n, f_aload, f_aload_n, f_istore, f_istore_n, f_lstore, f_lstore_n, f_astore, f_astore_n, f_iinc, f_icI, f_iadd, f_isub, f_imul, f_idiv, f_irem, f_iand, f_ior, f_ixor, f_ishl, f_ishr, f_iushr, f_i2l, f_i2b, f_i2s, f_ladd, f_lmul, f_lcmp, f_dupI, f_dupR, f_dup2, f_pop, f_goto, f_if, f_icmp, f_tab, f_ts0, f_ts1, f_getI, f_getZ, f_getR, f_putI, f_putR, f_gets, f_iald, f_bald, f_aald, f_iast, f_bast, f_aast, f_alen, f_new, f_newa, f_anew, f_virt, f_stat0, f_stat1, f_spec0, f_spec1, f_spec9, f_copy, f_max, f_min, f_cV1, f_cV0, f_cS1, f_cS0, f_iret, f_lret, f_vret, f_kG, pf0, cIg, inR, lget, lset, lset2, clr, entL, cnd, psh, catS, tsw, List.take_succ_cons, List.take_zero, List.drop_succ_cons, List.drop_zero, List.reverse_cons, List.reverse_nil, List.nil_append, List.cons_append, List.length_cons, List.length_nil, List.replicate_succ, List.replicate_zero, Nat.reduceAdd, Nat.reduceSub, Nat.reduceLeDiff, Nat.reduceLT, Nat.reduceEqDiff, Nat.reduceMul, Nat.zero_add, Nat.add_zero, Nat.le_refl, Nat.zero_le, Int.reduceEq, Int.reduceToNat, Int.toNat_natCast, Int.reduceNeg, Int.reduceAdd, Int.reduceSub, Int.reduceMul, Int.reduceLT, Int.reduceLE, Int.reduceDiv, Int.reduceMod, Bool.false_eq_true, ↓reduceIte, true_and, and_true, implies_true, forall_const, true_or, or_true, or_false, false_or, not_true_eq_false, not_false_eq_true, false_implies, Prod.mk.injEq, Fin.val_zero, Fin.val_one, Fin.isValue, Fin.reduceFinMk, Fin.val_two, mR_uI, mK_uI, mN_uI, mI_uR, mK_uR, mN_uR, mR_uC, mK_uC, mN_uC, Option.some.injEq, Sum.inl.injEq, Sum.inr.injEq, decide_true, decide_false, Bool.or_false, Bool.false_or, Bool.or_true, Bool.true_or, Nat.reduceBEq, beq_self_eq_true, show tb 58 = tb_58 from rfl, tb_58, tb_58_0, tb_58_1, tb_58_2, pfb, pfb_b, pfb_c, pfb_v, pfa_b, pfa_c, pfa_v, k1, k2, k3, k4, k5, k6, k7, k8, kq1, w3, w4]
      refine ⟨fun h => by omega, fun _ => ⟨by omega, ?_⟩⟩
      exact inner 3 0 b.2.1 _ pl _ rfl (CB_set4 hb w1 (fun q hq => by have := hrp q hq; omega)) (PB_same hp ((Same.rf M1 (fun a => a = q)).uI rfl 4 _) (by omega) (fun x hx => by have := hrq x hx; omega)) (hS.uI (by unfold CR; omega) 4 _)
  refine Ev_of mcd_58 mok_58 (by decide) rfl (Nat.le_of_ble_eq_true rfl) ?_
  rw [show yl 58 = 4 from rfl]
  refine G_w (pfb_ok X) LK_58 (fun i => i == 2) 8 _ _ _ _ ?_
  simp only [f_0, f_s, f_iconst, f_bipush, f_sipush, f_ldc, f_ldc_w, f_ldc2_w, f_ldI, f_ldL, f_ldA, f_iload, f_iload_n, f_lload, f_lload_n, f_aload, f_aload_n, f_istore, f_istore_n, f_lstore, f_lstore_n, f_astore, f_astore_n, f_iinc, f_icI, f_iadd, f_isub, f_imul, f_idiv, f_irem, f_iand, f_ior, f_ixor, f_ishl, f_ishr, f_iushr, f_i2l, f_i2b, f_i2s, f_ladd, f_lmul, f_lcmp, f_dupI, f_dupR, f_dup2, f_pop, f_goto, f_if, f_icmp, f_tab, f_ts0, f_ts1, f_getI, f_getZ, f_getR, f_putI, f_putR, f_gets, f_iald, f_bald, f_aald, f_iast, f_bast, f_aast, f_alen, f_new, f_newa, f_anew, f_virt, f_stat0, f_stat1, f_spec0, f_spec1, f_spec9, f_copy, f_max, f_min, f_cV1, f_cV0, f_cS1, f_cS0, f_iret, f_lret, f_vret, f_kG, pf0, cIg, inR, lget, lset, lset2, clr, entL, cnd, psh, catS, tsw, List.take_succ_cons, List.take_zero, List.drop_succ_cons, List.drop_zero, List.reverse_cons, List.reverse_nil, List.nil_append, List.cons_append, List.length_cons, List.length_nil, List.replicate_succ, List.replicate_zero, Nat.reduceAdd, Nat.reduceSub, Nat.reduceLeDiff, Nat.reduceLT, Nat.reduceEqDiff, Nat.reduceMul, Nat.zero_add, Nat.add_zero, Nat.le_refl, Nat.zero_le, Int.reduceEq, Int.reduceToNat, Int.toNat_natCast, Int.reduceNeg, Int.reduceAdd, Int.reduceSub, Int.reduceMul, Int.reduceLT, Int.reduceLE, Int.reduceDiv, Int.reduceMod, Bool.false_eq_true, ↓reduceIte, true_and, and_true, implies_true, forall_const, true_or, or_true, or_false, false_or, not_true_eq_false, not_false_eq_true, false_implies, Prod.mk.injEq, Fin.val_zero, Fin.val_one, Fin.isValue, Fin.reduceFinMk, Fin.val_two, mR_uI, mK_uI, mN_uI, mI_uR, mK_uR, mN_uR, mR_uC, mK_uC, mN_uC, Option.some.injEq, Sum.inl.injEq, Sum.inr.injEq, decide_true, decide_false, Bool.or_false, Bool.false_or, Bool.or_true, Bool.true_or, Nat.reduceBEq, beq_self_eq_true, show tb 58 = tb_58 from rfl, tb_58, tb_58_0, tb_58_1, tb_58_2, pfb, pfb_b, pfb_c, pfb_v, pfa_b, pfa_c, pfa_v]
  exact loop bs [] pl M none none hb hp hok (Same.rf _ _)
