/-! refresh -/
def KK (n k : Int) : Prop := iAnd k 1 ≠ 0 ∧ (2 ≤ n → iAnd k 2 ≠ 0) ∧ (4 ≤ n → iAnd k 4 ≠ 0)
/-- how refresh ends -/
def RF (M : Mem) (T : Tx) (n : Int) (r : Option AV) (M' : Mem) : Prop := r = none ∧ CI M' T ∧ Smr M M' XR dyn ∧ mI M' 0 14 = mI M 0 14 ∧ KK n (mI M' 0 3)
theorem CJ.sm {M M' : Mem} {T : Tx} {k o nt sp : Int} {S : Nat → Prop} (h : CJ M T k o nt sp) (hS : Smr M M' S (fun _ => False)) (hs : ∀ a, S a → a = 0 ∨ a = 11 ∨ a = 12 ∨ (51 ≤ a ∧ a < 59) ∨ (521 ≤ a ∧ a < BIG)) : CJ M' T k o nt sp := by
  obtain ⟨h1, h2, h3, h4, h5, h6, h7, h8, h9⟩ := h
  have big := big_gt
  have hn : ∀ a, ¬ (a = 0 ∨ a = 11 ∨ a = 12 ∨ (51 ≤ a ∧ a < 59) ∨ (521 ≤ a ∧ a < BIG)) → ¬ S a := fun a h9 h => h9 (hs a h)
  exact ⟨hS.shp h1 (fun a ha => hn a (by omega)) (fun a h => h.elim), h2.sm hS.2.2.2 (fun a _ _ => hn a (by omega)), h3.sm hS (fun a ha => hn a (by omega)) ⟨hn _ (by omega), hn _ (by omega)⟩, h4, fun h => (h5 h).sm hS.2.2.2 (fun a _ _ => hn a (by omega)), fun h => (h6 h).sm hS (fun a _ _ => ⟨hn a (by omega), fun h => h⟩), fun h => (h7 h).sm hS.2.2.2 (fun a _ _ => hn a (by omega)), h8, fun j hj h => (h9 j hj h).sm hS.2.2.2 (hn _ (by omega))⟩
theorem Shp.v {M : Mem} (h : Shp M) {t : Nat} (ht : t < 7) : mR M 2 t = some (30 + 3 * t) ∧ PA M (30 + 3 * t) := by
  refine ⟨(h.r (by unfold dyn; omega) t).trans ?_, h.p ?_⟩
  · unfold SR
    rw [if_neg (by omega), if_neg (by omega), if_pos rfl, if_pos ht]
  · rcases (show t = 0 ∨ t = 1 ∨ t = 2 ∨ t = 3 ∨ t = 4 ∨ t = 5 ∨ t = 6 by omega) with rfl | rfl | rfl | rfl | rfl | rfl | rfl <;> rfl
theorem Shp.t {M : Mem} (h : Shp M) {t : Nat} (ht : t < 8) : mR M 1 t = some (14 + 2 * t) ∧ OA M 1 (roomT t) (14 + 2 * t) := by
  refine ⟨(h.r (by unfold dyn; omega) t).trans ?_, ?_⟩
  · unfold SR
    rw [if_neg (by omega), if_pos rfl, if_pos ht]
  · unfold OA
    rw [h.k, h.r (by unfold dyn; omega), h.k, h.n (show 14 + 2 * t + 1 < 1000000 by omega)]
    rcases (show t = 0 ∨ t = 1 ∨ t = 2 ∨ t = 3 ∨ t = 4 ∨ t = 5 ∨ t = 6 ∨ t = 7 by omega) with rfl | rfl | rfl | rfl | rfl | rfl | rfl | rfl <;> exact ⟨rfl, rfl, rfl, rfl⟩
theorem VA_gens {M : Mem} {T : Tx} {o : Int} (hs : Shp M) (h : VK M T o) : VA M 2 [30, 33, 36, 39, 42, 45] (gens T) := by
  refine ⟨hs.xk2, hs.xn2, rfl, rfl, fun j v hv => ?_, fun j L hL => ?_⟩
  · have hj : j < 6 := (List.getElem?_eq_some_iff.mp hv).1
    have he : v = 30 + 3 * j := by
      rcases (show j = 0 ∨ j = 1 ∨ j = 2 ∨ j = 3 ∨ j = 4 ∨ j = 5 by omega) with rfl | rfl | rfl | rfl | rfl | rfl <;> exact (Option.some.inj hv).symm
    subst he
    obtain ⟨a, b⟩ := hs.v (t := j) (by omega)
    exact ⟨a, b, by omega⟩
  · have hj : j < 6 := (List.getElem?_eq_some_iff.mp hL).1
    have he : L = valT T j := by
      rcases (show j = 0 ∨ j = 1 ∨ j = 2 ∨ j = 3 ∨ j = 4 ∨ j = 5 by omega) with rfl | rfl | rfl | rfl | rfl | rfl <;> exact (Option.some.inj hL).symm
    subst he
    refine ⟨30 + 3 * j, ?_, h.2.2 j (by omega), (val_ok T j).1⟩
    rcases (show j = 0 ∨ j = 1 ∨ j = 2 ∨ j = 3 ∨ j = 4 ∨ j = 5 by omega) with rfl | rfl | rfl | rfl | rfl | rfl <;> rfl
theorem gens_nd (T : Tx) : ∀ L ∈ gens T, (L.map (fun t => t.2)).Nodup := by
  intro L hL
  have h : ∃ t, L = valT T t := by
    unfold gens at hL
    simp only [List.mem_cons, List.not_mem_nil, or_false] at hL
    rcases hL with h | h | h | h | h | h <;> exact ⟨_, h⟩
  obtain ⟨t, rfl⟩ := h
  exact srt_nd (val_ok T t).2
theorem dynS (a : Nat) : CQ 361 a → dyn a := by unfold CQ dyn; omega
set_option maxRecDepth 100000 in
set_option maxHeartbeats 4000000 in
theorem r_segC (X : CX) (M : Mem) (T : Tx) (n : Int) (hn : n = 1 ∨ n = 2 ∨ n = 4) (M1 : Mem) (v2 : Option AV) (hC : CI M1 T) (hS : Smr M M1 XR dyn) (hf : mI M1 0 14 = mI M 0 14) (hk1 : iAnd (mI M1 0 3) 1 ≠ 0) (hk2 : 2 ≤ n → iAnd (mI M1 0 3) 2 ≠ 0) : G X y_x_refresh (mZ M, mS M, 0, 0) 62 [some (aR (some 0)), some (aI n), v2] [] M1 (RF M T n) := by
  have hC0 := hC
  obtain ⟨hs, hT, hO, hk, hV, hB, hN, hP, hY⟩ := hC
  have k0 := hs.xk0
  have big := big_gt
  by_cases h4 : n < 4
  · refine G_w (pfb_ok X) LK_16 (fun i => false) 10 _ _ _ _ ?_
    simp only [f_0, f_s, f_iconst, f_bipush, f_sipush, f_ldc, f_ldc_w, f_ldc2_w, f_ldI, f_ldL, f_ldA, f_iload, f_iload_n, f_lload, f_lload_n, f_aload, f_aload_n, f_istore, f_istore_n, f_lstore, f_lstore_n, f_astore, f_astore_n, f_iinc, f_icI, f_iadd, f_isub, f_imul, f_idiv, f_irem, f_iand, f_ior, f_ixor, f_ishl, f_ishr, f_iushr, f_i2l, f_i2b, f_i2s, f_ladd, f_lmul, f_lcmp, f_dupI, f_dupR, f_dup2, f_pop, f_goto, f_if, f_icmp, f_tab, f_ts0, f_ts1, f_getI, f_getZ, f_getR, f_putI, f_putR, f_gets, f_iald, f_bald, f_aald, f_iast, f_bast, f_aast, f_alen, f_new, f_newa, f_anew, f_virt, f_stat0, f_stat1, f_spec0, f_spec1, f_spec9, f_copy, f_max, f_min, f_cV1, f_cV0, f_cS1, f_cS0, f_iret, f_lret, f_vret, f_kG, pf0, cIg, inR, lget, lset, lset2, clr, entL, cnd, psh, catS, tsw, List.take_succ_cons, List.take_zero, List.drop_succ_cons, List.drop_zero, List.reverse_cons, List.reverse_nil, List.nil_append, List.cons_append, List.length_cons, List.length_nil, List.replicate_succ, List.replicate_zero, Nat.reduceAdd, Nat.reduceSub, Nat.reduceLeDiff, Nat.reduceLT, Nat.reduceEqDiff, Nat.reduceMul, Nat.zero_add, Nat.add_zero, Nat.le_refl, Nat.zero_le, Int.reduceEq, Int.reduceToNat, Int.toNat_natCast, Int.reduceNeg, Int.reduceAdd, Int.reduceSub, Int.reduceMul, Int.reduceLT, Int.reduceLE, Int.reduceDiv, Int.reduceMod, Bool.false_eq_true, ↓reduceIte, true_and, and_true, implies_true, forall_const, true_or, or_true, or_false, false_or, not_true_eq_false, not_false_eq_true, false_implies, Prod.mk.injEq, Fin.val_zero, Fin.val_one, Fin.isValue, Fin.reduceFinMk, Fin.val_two, mR_uI, mK_uI, mN_uI, mI_uR, mK_uR, mN_uR, mR_uC, mK_uC, mN_uC, Option.some.injEq, Sum.inl.injEq, Sum.inr.injEq, decide_true, decide_false, Bool.or_false, Bool.false_or, Bool.or_true, Bool.true_or, Nat.reduceBEq, beq_self_eq_true, show tb 16 = tb_16 from rfl, tb_16, tb_16_0, tb_16_1, tb_16_2, tb_16_3, pfb, pfb_b, pfb_c, pfb_v, pfa_b, pfa_c, pfa_v, h4]
    exact ⟨rfl, hC0, hS, hf, hk1, hk2, fun h => by omega⟩
  · have hn4 : n = 4 := by omega
    subst hn4
    by_cases hb : iAnd (mI M1 0 3) 4 = 0
    · obtain ⟨b1, b2, b3, b4, ps, b5, b6⟩ := hB (hk2 (by omega))
      obtain ⟨v1, v3, v4⟩ := hV hk1
      have q6 := (hs.v (t := 6) (by omega)).1
      have p6 := (hs.v (t := 6) (by omega)).2
      have p4 := hs.p (p := 4) rfl
      have L6 := v4 6 (by omega)
      have x7 := hs.xr7
      have x1 := hs.xr1
      have x5 := hs.xr5
      have k2 := hs.xk2
      have n2 := hs.xn2
      have k4 := hs.xk4
      refine G_w (pfb_ok X) LK_16 (fun i => false) 40 _ _ _ _ ?_
      simp only [f_0, f_s, f_iconst, f_bipush, f_sipush, f_ldc, f_ldc_w, f_ldc2_w, f_ldI, f_ldL, f_ldA, f_iload, f_iload_n, f_lload, f_lload_n, f_aload, f_aload_n, f_istore, f_istore_n, f_lstore, f_lstore_n, f_astore, f_astore_n, f_iinc, f_icI, f_iadd, f_isub, f_imul, f_idiv, f_irem, f_iand, f_ior, f_ixor, f_ishl, f_ishr, f_iushr, f_i2l, f_i2b, f_i2s, f_ladd, f_lmul, f_lcmp, f_dupI, f_dupR, f_dup2, f_pop, f_goto, f_if, f_icmp, f_tab, f_ts0, f_ts1, f_getI, f_getZ, f_getR, f_putI, f_putR, f_gets, f_iald, f_bald, f_aald, f_iast, f_bast, f_aast, f_alen, f_new, f_newa, f_anew, f_virt, f_stat0, f_stat1, f_spec0, f_spec1, f_spec9, f_copy, f_max, f_min, f_cV1, f_cV0, f_cS1, f_cS0, f_iret, f_lret, f_vret, f_kG, pf0, cIg, inR, lget, lset, lset2, clr, entL, cnd, psh, catS, tsw, List.take_succ_cons, List.take_zero, List.drop_succ_cons, List.drop_zero, List.reverse_cons, List.reverse_nil, List.nil_append, List.cons_append, List.length_cons, List.length_nil, List.replicate_succ, List.replicate_zero, Nat.reduceAdd, Nat.reduceSub, Nat.reduceLeDiff, Nat.reduceLT, Nat.reduceEqDiff, Nat.reduceMul, Nat.zero_add, Nat.add_zero, Nat.le_refl, Nat.zero_le, Int.reduceEq, Int.reduceToNat, Int.toNat_natCast, Int.reduceNeg, Int.reduceAdd, Int.reduceSub, Int.reduceMul, Int.reduceLT, Int.reduceLE, Int.reduceDiv, Int.reduceMod, Bool.false_eq_true, ↓reduceIte, true_and, and_true, implies_true, forall_const, true_or, or_true, or_false, false_or, not_true_eq_false, not_false_eq_true, false_implies, Prod.mk.injEq, Fin.val_zero, Fin.val_one, Fin.isValue, Fin.reduceFinMk, Fin.val_two, mR_uI, mK_uI, mN_uI, mI_uR, mK_uR, mN_uR, mR_uC, mK_uC, mN_uC, Option.some.injEq, Sum.inl.injEq, Sum.inr.injEq, decide_true, decide_false, Bool.or_false, Bool.false_or, Bool.or_true, Bool.true_or, Nat.reduceBEq, beq_self_eq_true, show tb 16 = tb_16 from rfl, tb_16, tb_16_0, tb_16_1, tb_16_2, tb_16_3, pfb, pfb_b, pfb_c, pfb_v, pfa_b, pfa_c, pfa_v, k0, hb, x7, x1, k2, n2, q6, k4]
      refine ⟨by omega, ?_⟩
      refine Ev_mono (e_become X M1 4 48 (valT T 6) p4 p6 (by omega) L6) (fun r M2 hr _ _ => ?_)
      obtain ⟨rfl, w1, w2, w3, w4⟩ := hr
      have hO0 := hO
      obtain ⟨ps0, ps2, qs, o1, o2, c1, -⟩ := hO
      have hca : CA M2 361 := CA_same c1.2.2.1 w4
      have hs2 := w4.shp hs (fun a ha => by unfold T3; omega)
      have y0 := hs2.xk0
      have y5 := hs2.xr5
      have y7 := hs2.xr7
      have z5 := hs2.xk361
      have r1 := (w4.2.2.2 361 1 (by unfold T3; omega)).trans b1
      have r4 := (w4.2.2.2 361 4 (by unfold T3; omega)).trans b3
      have cb2 := CB_same b6 w4 (by unfold T3; omega) (fun q hq => by have := b5 q hq; unfold T3; omega)
      have fin : ∀ (M3 : Mem) (nt : Int), Same M2 M3 (TS 4 361) → (nt = 0 ∨ nt = 1) → NK M3 T nt → G X y_x_refresh (mZ M, mS M, 0, 0) 91 [some (aR (some 0)), some (aI 4), v2] [aI nt, aR (some 0)] M3 (RF M T 4) := by
        intro M3 nt hS3 hnt hNK
        have hS13 : Same M1 M3 (fun a => T3 4 a ∨ a = 439 ∨ a = 440) := (w4.w (fun a h => Or.inl h)).tr (hS3.w (fun a h => by unfold TS at h; omega))
        have hs3 := hS13.shp hs (fun a ha => by unfold T3; omega)
        have y0 := hs3.xk0
        have hko : mI (uI M3 0 8 nt) 0 3 = mI M1 0 3 := (mI_uI_nk (by omega)).trans (hS13.2.2.2 0 3 (by unfold T3; omega))
        refine G_w (pfb_ok X) LK_16 (fun i => false) 40 _ _ _ _ ?_
        simp only [f_0, f_s, f_iconst, f_bipush, f_sipush, f_ldc, f_ldc_w, f_ldc2_w, f_ldI, f_ldL, f_ldA, f_iload, f_iload_n, f_lload, f_lload_n, f_aload, f_aload_n, f_istore, f_istore_n, f_lstore, f_lstore_n, f_astore, f_astore_n, f_iinc, f_icI, f_iadd, f_isub, f_imul, f_idiv, f_irem, f_iand, f_ior, f_ixor, f_ishl, f_ishr, f_iushr, f_i2l, f_i2b, f_i2s, f_ladd, f_lmul, f_lcmp, f_dupI, f_dupR, f_dup2, f_pop, f_goto, f_if, f_icmp, f_tab, f_ts0, f_ts1, f_getI, f_getZ, f_getR, f_putI, f_putR, f_gets, f_iald, f_bald, f_aald, f_iast, f_bast, f_aast, f_alen, f_new, f_newa, f_anew, f_virt, f_stat0, f_stat1, f_spec0, f_spec1, f_spec9, f_copy, f_max, f_min, f_cV1, f_cV0, f_cS1, f_cS0, f_iret, f_lret, f_vret, f_kG, pf0, cIg, inR, lget, lset, lset2, clr, entL, cnd, psh, catS, tsw, List.take_succ_cons, List.take_zero, List.drop_succ_cons, List.drop_zero, List.reverse_cons, List.reverse_nil, List.nil_append, List.cons_append, List.length_cons, List.length_nil, List.replicate_succ, List.replicate_zero, Nat.reduceAdd, Nat.reduceSub, Nat.reduceLeDiff, Nat.reduceLT, Nat.reduceEqDiff, Nat.reduceMul, Nat.zero_add, Nat.add_zero, Nat.le_refl, Nat.zero_le, Int.reduceEq, Int.reduceToNat, Int.toNat_natCast, Int.reduceNeg, Int.reduceAdd, Int.reduceSub, Int.reduceMul, Int.reduceLT, Int.reduceLE, Int.reduceDiv, Int.reduceMod, Bool.false_eq_true, ↓reduceIte, true_and, and_true, implies_true, forall_const, true_or, or_true, or_false, false_or, not_true_eq_false, not_false_eq_true, false_implies, Prod.mk.injEq, Fin.val_zero, Fin.val_one, Fin.isValue, Fin.reduceFinMk, Fin.val_two, mR_uI, mK_uI, mN_uI, mI_uR, mK_uR, mN_uR, mR_uC, mK_uC, mN_uC, Option.some.injEq, Sum.inl.injEq, Sum.inr.injEq, decide_true, decide_false, Bool.or_false, Bool.false_or, Bool.or_true, Bool.true_or, Nat.reduceBEq, beq_self_eq_true, show tb 16 = tb_16 from rfl, tb_16, tb_16_0, tb_16_1, tb_16_2, tb_16_3, pfb, pfb_b, pfb_c, pfb_v, pfa_b, pfa_c, pfa_v, y0, hko]
        refine ⟨hnt, rfl, ?_, ?_, ?_, ?_⟩
        · refine CI.upd ?_
          obtain ⟨kr, kj⟩ := kset hk 2 (by omega)
          have hSu : Smr M1 (uI M3 0 8 nt) (fun a => a = 0 ∨ T3 4 a ∨ a = 439 ∨ a = 440) (fun _ => False) := Smr.uI (S := fun a => a = 0 ∨ T3 4 a ∨ a = 439 ∨ a = 440) ((hS13.smr (fun _ => False)).w (fun a h => Or.inr h) (fun _ h => h)) (Or.inl rfl) 8 nt
          have e4 : mI (uI M3 0 8 nt) 0 4 = mI M1 0 4 := (mI_uI_nk (by omega)).trans (hS13.2.2.2 0 4 (by unfold T3; omega))
          have e10 : mI (uI M3 0 8 nt) 0 10 = mI M1 0 10 := (mI_uI_nk (by omega)).trans (hS13.2.2.2 0 10 (by unfold T3; omega))
          rw [e4, e10, mI_uI_eq]
          have j0 := kj 0 (by omega)
          have j1 := kj 1 (by omega)
          have j3 := kj 3 (by omega)
          refine ⟨hSu.shp hs (fun a ha => by unfold T3; omega) (fun a h => h.elim), hT.sm hSu.2.2.2 (fun a _ _ => by unfold T3; omega), hO0.sm hSu (fun a ha => by unfold T3; omega) (by unfold T3; omega), kr, fun _ => (hV hk1).sm hSu.2.2.2 (fun a _ _ => by unfold T3; omega), fun _ => (hB (hk2 (by omega))).sm hSu (fun a _ _ => ⟨by unfold T3; omega, fun h => h⟩), fun _ => ⟨hNK.1, fun h9 => PL_same (S := fun a => a = 0) (hNK.2 h9) (fun a k ha => mI_uI_ne ha) (by omega) (by omega) (by omega)⟩, fun h => hP (by rw [show iAnd (iOr (mI M1 0 3) 4) 8 = iAnd (mI M1 0 3) 8 from j3] at h; exact h), fun j hj h => (hY j hj (by rw [show iAnd (iOr (mI M1 0 3) 4) (bt (4 + j)) = iAnd (mI M1 0 3) (bt (4 + j)) from (kj (4 + j) (by omega)).trans (if_neg (by omega))] at h; exact h)).sm hSu.2.2.2 (by unfold T3; omega)⟩
        · exact ((hS.tr ((hS13.smr dyn).w (fun a h => by unfold T3 at h; unfold XR; omega) (fun _ h => h))).uI (by unfold XR; omega) _ _).uI (by unfold XR; omega) _ _
        · rw [mI_uI_nk (by omega), mI_uI_nk (by omega), hS13.2.2.2 0 14 (by unfold T3; omega), hf]
        · rw [mI_uI_eq]
          obtain ⟨kr, kj⟩ := kset hk 2 (by omega)
          refine ⟨?_, fun _ => ?_, fun _ => ?_⟩
          · rw [show iAnd (iOr (mI M1 0 3) 4) 1 = iAnd (mI M1 0 3) 1 from kj 0 (by omega)]; exact hk1
          · rw [show iAnd (iOr (mI M1 0 3) 4) 2 = iAnd (mI M1 0 3) 2 from kj 1 (by omega)]; exact hk2 (by omega)
          · rw [show iAnd (iOr (mI M1 0 3) 4) 4 = 4 from kj 2 (by omega)]; omega
      by_cases hz : (cmT T).1 = 0
      · have hnf : nfT T = nfF (ordT T) (cmT T).2.2 32768 0 (valT T 6) := by unfold nfT; rw [if_pos hz]
        simp only [f_kG, psh, Nat.reduceAdd]
        refine G_w (pfb_ok X) LK_16 (fun i => false) 40 _ _ _ _ ?_
        simp only [f_0, f_s, f_iconst, f_bipush, f_sipush, f_ldc, f_ldc_w, f_ldc2_w, f_ldI, f_ldL, f_ldA, f_iload, f_iload_n, f_lload, f_lload_n, f_aload, f_aload_n, f_istore, f_istore_n, f_lstore, f_lstore_n, f_astore, f_astore_n, f_iinc, f_icI, f_iadd, f_isub, f_imul, f_idiv, f_irem, f_iand, f_ior, f_ixor, f_ishl, f_ishr, f_iushr, f_i2l, f_i2b, f_i2s, f_ladd, f_lmul, f_lcmp, f_dupI, f_dupR, f_dup2, f_pop, f_goto, f_if, f_icmp, f_tab, f_ts0, f_ts1, f_getI, f_getZ, f_getR, f_putI, f_putR, f_gets, f_iald, f_bald, f_aald, f_iast, f_bast, f_aast, f_alen, f_new, f_newa, f_anew, f_virt, f_stat0, f_stat1, f_spec0, f_spec1, f_spec9, f_copy, f_max, f_min, f_cV1, f_cV0, f_cS1, f_cS0, f_iret, f_lret, f_vret, f_kG, pf0, cIg, inR, lget, lset, lset2, clr, entL, cnd, psh, catS, tsw, List.take_succ_cons, List.take_zero, List.drop_succ_cons, List.drop_zero, List.reverse_cons, List.reverse_nil, List.nil_append, List.cons_append, List.length_cons, List.length_nil, List.replicate_succ, List.replicate_zero, Nat.reduceAdd, Nat.reduceSub, Nat.reduceLeDiff, Nat.reduceLT, Nat.reduceEqDiff, Nat.reduceMul, Nat.zero_add, Nat.add_zero, Nat.le_refl, Nat.zero_le, Int.reduceEq, Int.reduceToNat, Int.toNat_natCast, Int.reduceNeg, Int.reduceAdd, Int.reduceSub, Int.reduceMul, Int.reduceLT, Int.reduceLE, Int.reduceDiv, Int.reduceMod, Bool.false_eq_true, ↓reduceIte, true_and, and_true, implies_true, forall_const, true_or, or_true, or_false, false_or, not_true_eq_false, not_false_eq_true, false_implies, Prod.mk.injEq, Fin.val_zero, Fin.val_one, Fin.isValue, Fin.reduceFinMk, Fin.val_two, mR_uI, mK_uI, mN_uI, mI_uR, mK_uR, mN_uR, mR_uC, mK_uC, mN_uC, Option.some.injEq, Sum.inl.injEq, Sum.inr.injEq, decide_true, decide_false, Bool.or_false, Bool.false_or, Bool.or_true, Bool.true_or, Nat.reduceBEq, beq_self_eq_true, show tb 16 = tb_16 from rfl, tb_16, tb_16_0, tb_16_1, tb_16_2, tb_16_3, pfb, pfb_b, pfb_c, pfb_v, pfa_b, pfa_c, pfa_v, y0, y5, y7, z5, r1, hz]
        refine Ev_mono (e_reduce X M2 361 4 (ordT T) (valT T 6) ps (cmT T).2.2 hs2.2.2.2 hca r4 (w4.pa p4) (by omega) hs2.xk362 (by unfold far; omega) w1 (val_ok T 6).1 cb2 b4 (fun q hq => by have := b5 q hq; unfold far; omega)) (fun r M3 hr _ _ => ?_)
        rw [← hnf] at hr
        obtain ⟨u1, rfl, u2⟩ := hr
        by_cases hok : (nfT T).1 = true
        · have hif : (if (nfT T).1 = true then (1 : Int) else 0) = 1 := if_pos hok
          rw [hif]
          simp only [f_kG, psh, Nat.reduceAdd]
          refine G_w (pfb_ok X) LK_16 (fun i => i == 91) 40 _ _ _ _ ?_
          simp only [f_0, f_s, f_iconst, f_bipush, f_sipush, f_ldc, f_ldc_w, f_ldc2_w, f_ldI, f_ldL, f_ldA, f_iload, f_iload_n, f_lload, f_lload_n, f_aload, f_aload_n, f_istore, f_istore_n, f_lstore, f_lstore_n, f_astore, f_astore_n, f_iinc, f_icI, f_iadd, f_isub, f_imul, f_idiv, f_irem, f_iand, f_ior, f_ixor, f_ishl, f_ishr, f_iushr, f_i2l, f_i2b, f_i2s, f_ladd, f_lmul, f_lcmp, f_dupI, f_dupR, f_dup2, f_pop, f_goto, f_if, f_icmp, f_tab, f_ts0, f_ts1, f_getI, f_getZ, f_getR, f_putI, f_putR, f_gets, f_iald, f_bald, f_aald, f_iast, f_bast, f_aast, f_alen, f_new, f_newa, f_anew, f_virt, f_stat0, f_stat1, f_spec0, f_spec1, f_spec9, f_copy, f_max, f_min, f_cV1, f_cV0, f_cS1, f_cS0, f_iret, f_lret, f_vret, f_kG, pf0, cIg, inR, lget, lset, lset2, clr, entL, cnd, psh, catS, tsw, List.take_succ_cons, List.take_zero, List.drop_succ_cons, List.drop_zero, List.reverse_cons, List.reverse_nil, List.nil_append, List.cons_append, List.length_cons, List.length_nil, List.replicate_succ, List.replicate_zero, Nat.reduceAdd, Nat.reduceSub, Nat.reduceLeDiff, Nat.reduceLT, Nat.reduceEqDiff, Nat.reduceMul, Nat.zero_add, Nat.add_zero, Nat.le_refl, Nat.zero_le, Int.reduceEq, Int.reduceToNat, Int.toNat_natCast, Int.reduceNeg, Int.reduceAdd, Int.reduceSub, Int.reduceMul, Int.reduceLT, Int.reduceLE, Int.reduceDiv, Int.reduceMod, Bool.false_eq_true, ↓reduceIte, true_and, and_true, implies_true, forall_const, true_or, or_true, or_false, false_or, not_true_eq_false, not_false_eq_true, false_implies, Prod.mk.injEq, Fin.val_zero, Fin.val_one, Fin.isValue, Fin.reduceFinMk, Fin.val_two, mR_uI, mK_uI, mN_uI, mI_uR, mK_uR, mN_uR, mR_uC, mK_uC, mN_uC, Option.some.injEq, Sum.inl.injEq, Sum.inr.injEq, decide_true, decide_false, Bool.or_false, Bool.false_or, Bool.or_true, Bool.true_or, Nat.reduceBEq, beq_self_eq_true, show tb 16 = tb_16 from rfl, tb_16, tb_16_0, tb_16_1, tb_16_2, tb_16_3, pfb, pfb_b, pfb_c, pfb_v, pfa_b, pfa_c, pfa_v]
          exact fin M3 1 u1 (Or.inr rfl) ⟨by rw [hif], u2⟩
        · have hif : (if (nfT T).1 = true then (1 : Int) else 0) = 0 := if_neg hok
          rw [hif]
          simp only [f_kG, psh, Nat.reduceAdd]
          refine G_w (pfb_ok X) LK_16 (fun i => i == 91) 40 _ _ _ _ ?_
          simp only [f_0, f_s, f_iconst, f_bipush, f_sipush, f_ldc, f_ldc_w, f_ldc2_w, f_ldI, f_ldL, f_ldA, f_iload, f_iload_n, f_lload, f_lload_n, f_aload, f_aload_n, f_istore, f_istore_n, f_lstore, f_lstore_n, f_astore, f_astore_n, f_iinc, f_icI, f_iadd, f_isub, f_imul, f_idiv, f_irem, f_iand, f_ior, f_ixor, f_ishl, f_ishr, f_iushr, f_i2l, f_i2b, f_i2s, f_ladd, f_lmul, f_lcmp, f_dupI, f_dupR, f_dup2, f_pop, f_goto, f_if, f_icmp, f_tab, f_ts0, f_ts1, f_getI, f_getZ, f_getR, f_putI, f_putR, f_gets, f_iald, f_bald, f_aald, f_iast, f_bast, f_aast, f_alen, f_new, f_newa, f_anew, f_virt, f_stat0, f_stat1, f_spec0, f_spec1, f_spec9, f_copy, f_max, f_min, f_cV1, f_cV0, f_cS1, f_cS0, f_iret, f_lret, f_vret, f_kG, pf0, cIg, inR, lget, lset, lset2, clr, entL, cnd, psh, catS, tsw, List.take_succ_cons, List.take_zero, List.drop_succ_cons, List.drop_zero, List.reverse_cons, List.reverse_nil, List.nil_append, List.cons_append, List.length_cons, List.length_nil, List.replicate_succ, List.replicate_zero, Nat.reduceAdd, Nat.reduceSub, Nat.reduceLeDiff, Nat.reduceLT, Nat.reduceEqDiff, Nat.reduceMul, Nat.zero_add, Nat.add_zero, Nat.le_refl, Nat.zero_le, Int.reduceEq, Int.reduceToNat, Int.toNat_natCast, Int.reduceNeg, Int.reduceAdd, Int.reduceSub, Int.reduceMul, Int.reduceLT, Int.reduceLE, Int.reduceDiv, Int.reduceMod, Bool.false_eq_true, ↓reduceIte, true_and, and_true, implies_true, forall_const, true_or, or_true, or_false, false_or, not_true_eq_false, not_false_eq_true, false_implies, Prod.mk.injEq, Fin.val_zero, Fin.val_one, Fin.isValue, Fin.reduceFinMk, Fin.val_two, mR_uI, mK_uI, mN_uI, mI_uR, mK_uR, mN_uR, mR_uC, mK_uC, mN_uC, Option.some.injEq, Sum.inl.injEq, Sum.inr.injEq, decide_true, decide_false, Bool.or_false, Bool.false_or, Bool.or_true, Bool.true_or, Nat.reduceBEq, beq_self_eq_true, show tb 16 = tb_16 from rfl, tb_16, tb_16_0, tb_16_1, tb_16_2, tb_16_3, pfb, pfb_b, pfb_c, pfb_v, pfa_b, pfa_c, pfa_v]
          exact fin M3 0 u1 (Or.inl rfl) ⟨by rw [hif], u2⟩
      · have hnf : nfT T = (false, []) := by unfold nfT; rw [if_neg hz]
        simp only [f_kG, psh, Nat.reduceAdd]
        refine G_w (pfb_ok X) LK_16 (fun i => i == 91) 40 _ _ _ _ ?_
        simp only [f_0, f_s, f_iconst, f_bipush, f_sipush, f_ldc, f_ldc_w, f_ldc2_w, f_ldI, f_ldL, f_ldA, f_iload, f_iload_n, f_lload, f_lload_n, f_aload, f_aload_n, f_istore, f_istore_n, f_lstore, f_lstore_n, f_astore, f_astore_n, f_iinc, f_icI, f_iadd, f_isub, f_imul, f_idiv, f_irem, f_iand, f_ior, f_ixor, f_ishl, f_ishr, f_iushr, f_i2l, f_i2b, f_i2s, f_ladd, f_lmul, f_lcmp, f_dupI, f_dupR, f_dup2, f_pop, f_goto, f_if, f_icmp, f_tab, f_ts0, f_ts1, f_getI, f_getZ, f_getR, f_putI, f_putR, f_gets, f_iald, f_bald, f_aald, f_iast, f_bast, f_aast, f_alen, f_new, f_newa, f_anew, f_virt, f_stat0, f_stat1, f_spec0, f_spec1, f_spec9, f_copy, f_max, f_min, f_cV1, f_cV0, f_cS1, f_cS0, f_iret, f_lret, f_vret, f_kG, pf0, cIg, inR, lget, lset, lset2, clr, entL, cnd, psh, catS, tsw, List.take_succ_cons, List.take_zero, List.drop_succ_cons, List.drop_zero, List.reverse_cons, List.reverse_nil, List.nil_append, List.cons_append, List.length_cons, List.length_nil, List.replicate_succ, List.replicate_zero, Nat.reduceAdd, Nat.reduceSub, Nat.reduceLeDiff, Nat.reduceLT, Nat.reduceEqDiff, Nat.reduceMul, Nat.zero_add, Nat.add_zero, Nat.le_refl, Nat.zero_le, Int.reduceEq, Int.reduceToNat, Int.toNat_natCast, Int.reduceNeg, Int.reduceAdd, Int.reduceSub, Int.reduceMul, Int.reduceLT, Int.reduceLE, Int.reduceDiv, Int.reduceMod, Bool.false_eq_true, ↓reduceIte, true_and, and_true, implies_true, forall_const, true_or, or_true, or_false, false_or, not_true_eq_false, not_false_eq_true, false_implies, Prod.mk.injEq, Fin.val_zero, Fin.val_one, Fin.isValue, Fin.reduceFinMk, Fin.val_two, mR_uI, mK_uI, mN_uI, mI_uR, mK_uR, mN_uR, mR_uC, mK_uC, mN_uC, Option.some.injEq, Sum.inl.injEq, Sum.inr.injEq, decide_true, decide_false, Bool.or_false, Bool.false_or, Bool.or_true, Bool.true_or, Nat.reduceBEq, beq_self_eq_true, show tb 16 = tb_16 from rfl, tb_16, tb_16_0, tb_16_1, tb_16_2, tb_16_3, pfb, pfb_b, pfb_c, pfb_v, pfa_b, pfa_c, pfa_v, y0, y5, y7, z5, r1, hz]
        exact fin M2 0 (Same.rf _ _) (Or.inl rfl) ⟨by rw [hnf]; rfl, fun h => by rw [hnf] at h; cases h⟩
    · refine G_w (pfb_ok X) LK_16 (fun i => false) 20 _ _ _ _ ?_
      simp only [f_0, f_s, f_iconst, f_bipush, f_sipush, f_ldc, f_ldc_w, f_ldc2_w, f_ldI, f_ldL, f_ldA, f_iload, f_iload_n, f_lload, f_lload_n, f_aload, f_aload_n, f_istore, f_istore_n, f_lstore, f_lstore_n, f_astore, f_astore_n, f_iinc, f_icI, f_iadd, f_isub, f_imul, f_idiv, f_irem, f_iand, f_ior, f_ixor, f_ishl, f_ishr, f_iushr, f_i2l, f_i2b, f_i2s, f_ladd, f_lmul, f_lcmp, f_dupI, f_dupR, f_dup2, f_pop, f_goto, f_if, f_icmp, f_tab, f_ts0, f_ts1, f_getI, f_getZ, f_getR, f_putI, f_putR, f_gets, f_iald, f_bald, f_aald, f_iast, f_bast, f_aast, f_alen, f_new, f_newa, f_anew, f_virt, f_stat0, f_stat1, f_spec0, f_spec1, f_spec9, f_copy, f_max, f_min, f_cV1, f_cV0, f_cS1, f_cS0, f_iret, f_lret, f_vret, f_kG, pf0, cIg, inR, lget, lset, lset2, clr, entL, cnd, psh, catS, tsw, List.take_succ_cons, List.take_zero, List.drop_succ_cons, List.drop_zero, List.reverse_cons, List.reverse_nil, List.nil_append, List.cons_append, List.length_cons, List.length_nil, List.replicate_succ, List.replicate_zero, Nat.reduceAdd, Nat.reduceSub, Nat.reduceLeDiff, Nat.reduceLT, Nat.reduceEqDiff, Nat.reduceMul, Nat.zero_add, Nat.add_zero, Nat.le_refl, Nat.zero_le, Int.reduceEq, Int.reduceToNat, Int.toNat_natCast, Int.reduceNeg, Int.reduceAdd, Int.reduceSub, Int.reduceMul, Int.reduceLT, Int.reduceLE, Int.reduceDiv, Int.reduceMod, Bool.false_eq_true, ↓reduceIte, true_and, and_true, implies_true, forall_const, true_or, or_true, or_false, false_or, not_true_eq_false, not_false_eq_true, false_implies, Prod.mk.injEq, Fin.val_zero, Fin.val_one, Fin.isValue, Fin.reduceFinMk, Fin.val_two, mR_uI, mK_uI, mN_uI, mI_uR, mK_uR, mN_uR, mR_uC, mK_uC, mN_uC, Option.some.injEq, Sum.inl.injEq, Sum.inr.injEq, decide_true, decide_false, Bool.or_false, Bool.false_or, Bool.or_true, Bool.true_or, Nat.reduceBEq, beq_self_eq_true, show tb 16 = tb_16 from rfl, tb_16, tb_16_0, tb_16_1, tb_16_2, tb_16_3, pfb, pfb_b, pfb_c, pfb_v, pfa_b, pfa_c, pfa_v, k0, hb]
      exact ⟨rfl, hC0, hS, hf, hk1, hk2, fun _ => hb⟩
