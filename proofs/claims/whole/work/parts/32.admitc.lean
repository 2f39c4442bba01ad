/-! the coming in, whole -/
theorem mul31 : ∀ k : Nat, k < 31 → ∀ m : Nat, m < 31 → 1 ≤ k → 1 ≤ m → 1 ≤ ((k : Int) * m) % 31 := by decide +kernel
theorem mon_ok {L : Po} (h : okP L) : okP (mon L) := by
  cases L with
  | nil => exact h
  | cons x xs =>
    have hx := (h x List.mem_cons_self).1
    obtain ⟨n, hn⟩ := Int.eq_ofNat_of_zero_le (show (0 : Int) ≤ x.1 by omega)
    have hi := (inv31_b n (by omega) (by omega)).1
    rw [← hn] at hi
    obtain ⟨m, hm⟩ := Int.eq_ofNat_of_zero_le (show (0 : Int) ≤ inv31 x.1 by omega)
    intro t ht
    obtain ⟨y, hy, rfl⟩ := List.mem_map.mp ht
    have oy := h y hy
    have oy1 := oy.1
    obtain ⟨k, hk⟩ := Int.eq_ofNat_of_zero_le (show (0 : Int) ≤ y.1 by omega)
    have hmul := mul31 k (by omega) m (by omega) (by omega) (by omega)
    refine ⟨?_, oy.2⟩
    simp only [monT]
    rw [hk, hm]
    have h31 := mod31 ((k : Int) * m)
    omega
theorem mon_ne {L : Po} (h : L ≠ []) : mon L ≠ [] := by
  cases L with
  | nil => exact h
  | cons x xs => simp [mon]
theorem mon_hd (L : Po) : hd (mon L) = hd L := by
  cases L with
  | nil => rfl
  | cons x xs => rfl
set_option maxRecDepth 100000 in
set_option maxHeartbeats 4000000 in
theorem e_admit (X : CX) (M : Mem) (c : Nat) (o : Int) (L : Po) (ps qs : List Nat) (bs : List Mb) (pl : List Po) (hW : CW M c o ps qs) (hb : CB M (c + 1) 24 ps bs) (hp : PB M 59 100 qs pl) (hL : PL M (c + 75) L) (okL : okP L) (hne : L ≠ []) (hok : ∀ b ∈ bs, okP b.1 ∧ b.1 ≠ []) : Ev X y_Completion_admit (0, 0) [aR (some c)] M (AD M c o (admF (mon L) bs pl)) := by
  have hW0 := hW
  obtain ⟨hE, hcc, hca, ho, ho2, htk, hrp, hrq⟩ := hW
  obtain ⟨c1, c2, c3, c4, c5, c6, c7, c8⟩ := hca
  have t1 := htk.1
  refine Ev_of mcd_54 mok_54 (by decide) rfl (Nat.le_of_ble_eq_true rfl) ?_
  rw [show yl 54 = 3 from rfl]
  refine G_w (pfb_ok X) LK_54 (fun i => i == 9 || i == 51) 8 _ _ _ _ ?_
  simp only [f_0, f_s, f_iconst, f_bipush, f_sipush, f_ldc, f_ldc_w, f_ldc2_w, f_ldI, f_ldL, f_ldA, f_iload, f_iload_n, f_lload, f_lload_n, f_aload, f_aload_n, f_istore, f_istore_n, f_lstore, f_lstore_n, f_astore, f_astore_n, f_iinc, f_icI, f_iadd, f_isub, f_imul, f_idiv, f_irem, f_iand, f_ior, f_ixor, f_ishl, f_ishr, f_iushr, f_i2l, f_i2b, f_i2s, f_ladd, f_lmul, f_lcmp, f_dupI, f_dupR, f_dup2, f_pop, f_goto, f_if, f_icmp, f_tab, f_ts0, f_ts1, f_getI, f_getZ, f_getR, f_putI, f_putR, f_gets, f_iald, f_bald, f_aald, f_iast, f_bast, f_aast, f_alen, f_new, f_newa, f_anew, f_virt, f_stat0, f_stat1, f_spec0, f_spec1, f_spec9, f_copy, f_max, f_min, f_cV1, f_cV0, f_cS1, f_cS0, f_iret, f_lret, f_vret, f_kG, pf0, cIg, inR, lget, lset, lset2, clr, entL, cnd, psh, catS, tsw, List.take_succ_cons, List.take_zero, List.drop_succ_cons, List.drop_zero, List.reverse_cons, List.reverse_nil, List.nil_append, List.cons_append, List.length_cons, List.length_nil, List.replicate_succ, List.replicate_zero, Nat.reduceAdd, Nat.reduceSub, Nat.reduceLeDiff, Nat.reduceLT, Nat.reduceEqDiff, Nat.reduceMul, Nat.zero_add, Nat.add_zero, Nat.le_refl, Nat.zero_le, Int.reduceEq, Int.reduceToNat, Int.toNat_natCast, Int.reduceNeg, Int.reduceAdd, Int.reduceSub, Int.reduceMul, Int.reduceLT, Int.reduceLE, Int.reduceDiv, Int.reduceMod, Bool.false_eq_true, ↓reduceIte, true_and, and_true, implies_true, forall_const, true_or, or_true, or_false, false_or, not_true_eq_false, not_false_eq_true, false_implies, Prod.mk.injEq, Fin.val_zero, Fin.val_one, Fin.isValue, Fin.reduceFinMk, Fin.val_two, mR_uI, mK_uI, mN_uI, mI_uR, mK_uR, mN_uR, mR_uC, mK_uC, mN_uC, Option.some.injEq, Sum.inl.injEq, Sum.inr.injEq, decide_true, decide_false, Bool.or_false, Bool.false_or, Bool.or_true, Bool.true_or, Nat.reduceBEq, beq_self_eq_true, show tb 54 = tb_54 from rfl, tb_54, tb_54_0, tb_54_1, tb_54_2, pfb, pfb_b, pfb_c, pfb_v, pfa_b, pfa_c, pfa_v, c1, c4, t1]
  refine Ev_mono (e_makeMonic X M (c + 75) L htk hL okL) (fun r M1 hr _ _ => ?_)
  obtain ⟨rfl, w1, w2⟩ := hr
  have hS : Smr M M1 (CR c) (CQ c) := (w2.smr (CQ c)).w (fun a h => by unfold CR; omega) (fun _ h => h)
  have hW1 := hW0.smr hS hrp hrq
  have hb1 := CB_same hb w2 (by omega) (fun q hq => by have := hrp q hq; omega)
  have hp1 := PB_same hp w2 (by omega) (fun q hq => by have := hrq q hq; omega)
  have hW1' := hW1
  obtain ⟨-, -, ⟨x1, x2, -⟩, -⟩ := hW1'
  have x3 := hb1.1.1
  have x4 := hb1.2.1
  simp only [f_kG, psh, Nat.reduceAdd]
  refine G_w (pfb_ok X) LK_54 (fun i => i == 9 || i == 51) 20 _ _ _ _ ?_
  simp only [f_0, f_s, f_iconst, f_bipush, f_sipush, f_ldc, f_ldc_w, f_ldc2_w, f_ldI, f_ldL, f_ldA, f_iload, f_iload_n, f_lload, f_lload_n, f_aload, f_aload_n, f_istore, f_istore_n, f_lstore, f_lstore_n, f_astore, f_astore_n, f_iinc, f_icI, f_iadd, f_isub, f_imul, f_idiv, f_irem, f_iand, f_ior, f_ixor, f_ishl, f_ishr, f_iushr, f_i2l, f_i2b, f_i2s, f_ladd, f_lmul, f_lcmp, f_dupI, f_dupR, f_dup2, f_pop, f_goto, f_if, f_icmp, f_tab, f_ts0, f_ts1, f_getI, f_getZ, f_getR, f_putI, f_putR, f_gets, f_iald, f_bald, f_aald, f_iast, f_bast, f_aast, f_alen, f_new, f_newa, f_anew, f_virt, f_stat0, f_stat1, f_spec0, f_spec1, f_spec9, f_copy, f_max, f_min, f_cV1, f_cV0, f_cS1, f_cS0, f_iret, f_lret, f_vret, f_kG, pf0, cIg, inR, lget, lset, lset2, clr, entL, cnd, psh, catS, tsw, List.take_succ_cons, List.take_zero, List.drop_succ_cons, List.drop_zero, List.reverse_cons, List.reverse_nil, List.nil_append, List.cons_append, List.length_cons, List.length_nil, List.replicate_succ, List.replicate_zero, Nat.reduceAdd, Nat.reduceSub, Nat.reduceLeDiff, Nat.reduceLT, Nat.reduceEqDiff, Nat.reduceMul, Nat.zero_add, Nat.add_zero, Nat.le_refl, Nat.zero_le, Int.reduceEq, Int.reduceToNat, Int.toNat_natCast, Int.reduceNeg, Int.reduceAdd, Int.reduceSub, Int.reduceMul, Int.reduceLT, Int.reduceLE, Int.reduceDiv, Int.reduceMod, Bool.false_eq_true, ↓reduceIte, true_and, and_true, implies_true, forall_const, true_or, or_true, or_false, false_or, not_true_eq_false, not_false_eq_true, false_implies, Prod.mk.injEq, Fin.val_zero, Fin.val_one, Fin.isValue, Fin.reduceFinMk, Fin.val_two, mR_uI, mK_uI, mN_uI, mI_uR, mK_uR, mN_uR, mR_uC, mK_uC, mN_uC, Option.some.injEq, Sum.inl.injEq, Sum.inr.injEq, decide_true, decide_false, Bool.or_false, Bool.false_or, Bool.or_true, Bool.true_or, Nat.reduceBEq, beq_self_eq_true, show tb 54 = tb_54 from rfl, tb_54, tb_54_0, tb_54_1, tb_54_2, pfb, pfb_b, pfb_c, pfb_v, pfa_b, pfa_c, pfa_v, x1, x2, x3, x4]
  exact a_loop X M c o (mon L) ⟨mon_ok okL, mon_ne hne⟩ bs [] pl ps qs M1 hW1 hb1 hp1 w1 hok hS
