/-! texts that change -/
theorem spA_eq {T T' : Tx} : ∀ (k g : Nat) (b : Int), (∀ u, u < g + k → isSp T' u = isSp T u) → spA T' k g b = spA T k g b
  | 0, g, b, _ => rfl
  | k + 1, g, b, h => by
    rw [spA, spA, h g (by omega)]
    exact spA_eq k (g + 1) _ (fun u hu => h u (by omega))
theorem T6 {T T' : Tx} (h : ∀ u, u ≠ 6 → T' u = T u) : ordT T' = ordT T ∧ (∀ g, g < 6 → valT T' g = valT T g) ∧ (∀ o lo, cmG T' o lo = cmG T o lo) ∧ spT T' = spT T ∧ ∀ o w, byT T' o w = byT T o w := by
  have h1 : ordT T' = ordT T := by unfold ordT; rw [h 7 (by omega)]
  have h2 : ∀ g, g < 6 → valT T' g = valT T g := fun g hg => by unfold valT; rw [h1, h g (by omega)]
  have h3 : gens T' = gens T := by unfold gens; rw [h2 0 (by omega), h2 1 (by omega), h2 2 (by omega), h2 3 (by omega), h2 4 (by omega), h2 5 (by omega)]
  have h4 : ∀ o lo, cmG T' o lo = cmG T o lo := fun o lo => by unfold cmG; rw [h3]
  have h5 : spT T' = spT T := spA_eq 6 0 0 (fun u hu => by unfold isSp; rw [h1, h2 u (by omega), h4])
  exact ⟨h1, h2, h4, h5, fun o w => by unfold byT; rw [h4]⟩
set_option maxRecDepth 100000 in
set_option maxHeartbeats 4000000 in
theorem e_forget (X : CX) (M : Mem) (t : Int) (hs : Shp M) : Ev X y_x_forget (0, 0) [aR (some 0), aI t] M (fun r M' => r = none ∧ M' = uI M 0 3 (if t = 6 then iAnd (mI M 0 3) (-6) else 0)) := by
  by_cases h : t = 6
  · rw [if_pos h]
    refine Ev_of mcd_12 mok_12 (by decide) rfl (Nat.le_of_ble_eq_true rfl) ?_
    rw [show yl 12 = 2 from rfl]
    refine G_w (pfb_ok X) LK_12 (fun i => false) 20 _ _ _ _ ?_
    simp only [f_0, f_s, f_iconst, f_bipush, f_sipush, f_ldc, f_ldc_w, f_ldc2_w, f_ldI, f_ldL, f_ldA, f_iload, f_iload_n, f_lload, f_lload_n, f_aload, f_aload_n, f_istore, f_istore_n, f_lstore, f_lstore_n, f_astore, f_astore_n, f_iinc, f_icI, f_iadd, f_isub, f_imul, f_idiv, f_irem, f_iand, f_ior, f_ixor, f_ishl, f_ishr, f_iushr, f_i2l, f_i2b, f_i2s, f_ladd, f_lmul, f_lcmp, f_dupI, f_dupR, f_dup2, f_pop, f_goto, f_if, f_icmp, f_tab, f_ts0, f_ts1, f_getI, f_getZ, f_getR, f_putI, f_putR, f_gets, f_iald, f_bald, f_aald, f_iast, f_bast, f_aast, f_alen, f_new, f_newa, f_anew, f_virt, f_stat0, f_stat1, f_spec0, f_spec1, f_spec9, f_copy, f_max, f_min, f_cV1, f_cV0, f_cS1, f_cS0, f_iret, f_lret, f_vret, f_kG, pf0, cIg, inR, lget, lset, lset2, clr, entL, cnd, psh, catS, tsw, List.take_succ_cons, List.take_zero, List.drop_succ_cons, List.drop_zero, List.reverse_cons, List.reverse_nil, List.nil_append, List.cons_append, List.length_cons, List.length_nil, List.replicate_succ, List.replicate_zero, Nat.reduceAdd, Nat.reduceSub, Nat.reduceLeDiff, Nat.reduceLT, Nat.reduceEqDiff, Nat.reduceMul, Nat.zero_add, Nat.add_zero, Nat.le_refl, Nat.zero_le, Int.reduceEq, Int.reduceToNat, Int.toNat_natCast, Int.reduceNeg, Int.reduceAdd, Int.reduceSub, Int.reduceMul, Int.reduceLT, Int.reduceLE, Int.reduceDiv, Int.reduceMod, Bool.false_eq_true, ↓reduceIte, true_and, and_true, implies_true, forall_const, true_or, or_true, or_false, false_or, not_true_eq_false, not_false_eq_true, false_implies, Prod.mk.injEq, Fin.val_zero, Fin.val_one, Fin.isValue, Fin.reduceFinMk, Fin.val_two, mR_uI, mK_uI, mN_uI, mI_uR, mK_uR, mN_uR, mR_uC, mK_uC, mN_uC, Option.some.injEq, Sum.inl.injEq, Sum.inr.injEq, decide_true, decide_false, Bool.or_false, Bool.false_or, Bool.or_true, Bool.true_or, Nat.reduceBEq, beq_self_eq_true, show tb 12 = tb_12 from rfl, tb_12, tb_12_0, pfb, pfb_b, pfb_c, pfb_v, pfa_b, pfa_c, pfa_v, hs.xk0, h]
  · rw [if_neg h]
    refine Ev_of mcd_12 mok_12 (by decide) rfl (Nat.le_of_ble_eq_true rfl) ?_
    rw [show yl 12 = 2 from rfl]
    refine G_w (pfb_ok X) LK_12 (fun i => false) 20 _ _ _ _ ?_
    simp only [f_0, f_s, f_iconst, f_bipush, f_sipush, f_ldc, f_ldc_w, f_ldc2_w, f_ldI, f_ldL, f_ldA, f_iload, f_iload_n, f_lload, f_lload_n, f_aload, f_aload_n, f_istore, f_istore_n, f_lstore, f_lstore_n, f_astore, f_astore_n, f_iinc, f_icI, f_iadd, f_isub, f_imul, f_idiv, f_irem, f_iand, f_ior, f_ixor, f_ishl, f_ishr, f_iushr, f_i2l, f_i2b, f_i2s, f_ladd, f_lmul, f_lcmp, f_dupI, f_dupR, f_dup2, f_pop, f_goto, f_if, f_icmp, f_tab, f_ts0, f_ts1, f_getI, f_getZ, f_getR, f_putI, f_putR, f_gets, f_iald, f_bald, f_aald, f_iast, f_bast, f_aast, f_alen, f_new, f_newa, f_anew, f_virt, f_stat0, f_stat1, f_spec0, f_spec1, f_spec9, f_copy, f_max, f_min, f_cV1, f_cV0, f_cS1, f_cS0, f_iret, f_lret, f_vret, f_kG, pf0, cIg, inR, lget, lset, lset2, clr, entL, cnd, psh, catS, tsw, List.take_succ_cons, List.take_zero, List.drop_succ_cons, List.drop_zero, List.reverse_cons, List.reverse_nil, List.nil_append, List.cons_append, List.length_cons, List.length_nil, List.replicate_succ, List.replicate_zero, Nat.reduceAdd, Nat.reduceSub, Nat.reduceLeDiff, Nat.reduceLT, Nat.reduceEqDiff, Nat.reduceMul, Nat.zero_add, Nat.add_zero, Nat.le_refl, Nat.zero_le, Int.reduceEq, Int.reduceToNat, Int.toNat_natCast, Int.reduceNeg, Int.reduceAdd, Int.reduceSub, Int.reduceMul, Int.reduceLT, Int.reduceLE, Int.reduceDiv, Int.reduceMod, Bool.false_eq_true, ↓reduceIte, true_and, and_true, implies_true, forall_const, true_or, or_true, or_false, false_or, not_true_eq_false, not_false_eq_true, false_implies, Prod.mk.injEq, Fin.val_zero, Fin.val_one, Fin.isValue, Fin.reduceFinMk, Fin.val_two, mR_uI, mK_uI, mN_uI, mI_uR, mK_uR, mN_uR, mR_uC, mK_uC, mN_uC, Option.some.injEq, Sum.inl.injEq, Sum.inr.injEq, decide_true, decide_false, Bool.or_false, Bool.false_or, Bool.or_true, Bool.true_or, Nat.reduceBEq, beq_self_eq_true, show tb 12 = tb_12 from rfl, tb_12, tb_12_0, pfb, pfb_b, pfb_c, pfb_v, pfa_b, pfa_c, pfa_v, hs.xk0, h]
theorem CI.txt {M M1 : Mem} {T T' : Tx} {t : Nat} (ht : t < 8) (hC : CI M T) (hS : Same M M1 (fun a => a = 14 + 2 * t ∨ a = 15 + 2 * t)) (hT' : TX M1 T') (hne : ∀ u, u ≠ t → T' u = T u) : CI (uI M1 0 3 (if (t : Int) = 6 then iAnd (mI M 0 3) (-6) else 0)) T' := by
  obtain ⟨hs, hT, hO, hk, hV, hB, hN, hP, hY⟩ := hC
  have big := big_gt
  refine CI.upd ?_
  have hSm := hS.smr (fun _ => False)
  have h1 := hS.shp hs (fun a ha => by omega)
  have h3 := hO.sm hSm (fun a ha => by omega) (by omega)
  by_cases h6 : t = 6
  · subst h6
    rw [if_pos (show ((6 : Nat) : Int) = 6 from rfl)]
    obtain ⟨g1, g2, g3, g4, g5⟩ := T6 hne
    obtain ⟨kr, kj⟩ := kclr hk
    rw [hS.2.2.2 0 10 (by omega)]
    refine ⟨h1, hT', h3, kr, fun h => absurd (kj 0 (by omega)) h, fun h => ?_, fun h => absurd (kj 2 (by omega)) h, fun h => ?_, fun j hj h => ?_⟩
    · have hb := hB (by rw [show iAnd (iAnd (mI M 0 3) (-6)) 2 = iAnd (mI M 0 3) 2 from kj 1 (by omega)] at h; exact h)
      have hb2 := hb.sm hSm (fun a _ _ => ⟨by omega, fun h => h⟩)
      obtain ⟨b1, b2, b3, b4, ps, b5, b6⟩ := hb2
      have e : cmT T' = cmT T := by unfold cmT; rw [g1, g3]
      unfold BK
      rw [e, g1]
      exact ⟨b1, b2, b3, b4, ps, b5, b6⟩
    · rw [g4]
      exact hP (by rw [show iAnd (iAnd (mI M 0 3) (-6)) 8 = iAnd (mI M 0 3) 8 from kj 3 (by omega)] at h; exact h)
    · have hy := hY j hj (by rw [show iAnd (iAnd (mI M 0 3) (-6)) (bt (4 + j)) = iAnd (mI M 0 3) (bt (4 + j)) from (kj (4 + j) (by omega)).trans (if_neg (by omega))] at h; exact h)
      intro w hw
      rw [hS.2.2.2 10 _ (by omega), g5]
      exact hy w hw
  · rw [if_neg (by omega)]
    exact ⟨h1, hT', h3, by omega, fun h => absurd (kb0 0 (by omega)) h, fun h => absurd (kb0 1 (by omega)) h, fun h => absurd (kb0 2 (by omega)) h, fun h => absurd (kb0 3 (by omega)) h, fun j hj h => absurd (kb0 (4 + j) (by omega)) h⟩
def setT (T : Tx) (t : Nat) (B : List Int) : Tx := fun u => if u = t then B else T u
theorem setT_eq (T : Tx) (t : Nat) (B : List Int) : setT T t B t = B := if_pos rfl
theorem setT_ne {T : Tx} {t u : Nat} {B : List Int} (h : u ≠ t) : setT T t B u = T u := if_neg h
def Qs (M : Mem) (res : Int × St) (r : Option AV) (M' : Mem) : Prop := r = some (aI res.1) ∧ XI M' res.2 ∧ XM M M'
theorem XI.txt {M M1 : Mem} {s : St} {t : Nat} {B : List Int} (ht : t < 8) (hX : XI M s) (hS : Same M M1 (fun a => a = 14 + 2 * t ∨ a = 15 + 2 * t)) (hl : mI M1 (14 + 2 * t) 1 = B.length) (hB : IL M1 (15 + 2 * t) B) (hr : B.length ≤ roomT t) (hb : ∀ b ∈ B, 0 ≤ b ∧ b ≤ 255) : XI (uI M1 0 3 (if (t : Int) = 6 then iAnd (mI M 0 3) (-6) else 0)) (setT s.1 t B, s.2) ∧ XM M (uI M1 0 3 (if (t : Int) = 6 then iAnd (mI M 0 3) (-6) else 0)) := by
  obtain ⟨h1, h2, h3⟩ := hX
  have hT' : TX M1 (setT s.1 t B) := by
    intro u hu
    by_cases h9 : u = t
    · subst h9
      rw [setT_eq]
      exact ⟨hl, hB, hr, hb⟩
    · rw [setT_ne h9]
      obtain ⟨a1, a2, a3, a4⟩ := h1.2.1 u hu
      exact ⟨(hS.2.2.2 _ _ (by omega)).trans a1, fun j b hb => (hS.2.2.2 _ _ (by omega)).trans (a2 j b hb), a3, a4⟩
  refine ⟨⟨CI.txt ht h1 hS hT' (fun u hu => setT_ne hu), fun i hi => ?_, ?_⟩, ?_⟩
  · exact SHI.sm (S := fun a => a = 0) (SHI.sm (S := fun a => a = 14 + 2 * t ∨ a = 15 + 2 * t) (h2 i hi) hS.2.2.2 (by omega)) (fun a k ha => mI_uI_ne ha) (by omega)
  · rw [mI_uI_nk (by omega), hS.2.2.2 0 14 (by omega)]; exact h3
  · exact Smr.uI (S := fun a => a < 521) ((hS.smr dyn).w (fun a h => by omega) (fun _ h => h)) (by omega) _ _
def aType (s : St) (t b : Int) : Int × St := if 0 ≤ t ∧ t < 8 then (if 0 ≤ b ∧ b < 256 then (if (s.1 t.toNat).length = roomT t.toNat then (-4, s) else (((s.1 t.toNat).length : Int) + 1, (setT s.1 t.toNat (s.1 t.toNat ++ [b]), s.2))) else (-2, s)) else (-2, s)
def aWipe (s : St) (t : Int) : Int × St := if 0 ≤ t ∧ t < 8 then ((s.1 t.toNat).length, (setT s.1 t.toNat [], s.2)) else (-2, s)
def aUndo (s : St) (t : Int) : Int × St := if 0 ≤ t ∧ t < 8 then (if s.1 t.toNat = [] then (-3, s) else (((s.1 t.toNat).length : Int) - 1, (setT s.1 t.toNat ((s.1 t.toNat).take ((s.1 t.toNat).length - 1)), s.2))) else (-2, s)
set_option maxRecDepth 100000 in
set_option maxHeartbeats 4000000 in
theorem e_xtype (X : CX) (M : Mem) (s : St) (t b : Int) (hX : XI M s) : Ev X y_x_type (0, 0) [aR (some 0), aI t, aI b] M (Qs M (aType s t b)) := by
  have hs := hX.1.1
  unfold aType
  by_cases h : 0 ≤ t ∧ t < 8
  · have hif : (if 0 ≤ t ∧ t < 8 then (1 : Int) else 0) = 1 := if_pos h
    rw [if_pos h]
    by_cases h2 : 0 ≤ b ∧ b < 256
    · have hif2 : (if 0 ≤ b ∧ b < 256 then (1 : Int) else 0) = 1 := if_pos h2
      rw [if_pos h2]
      obtain ⟨m, rfl⟩ := Int.eq_ofNat_of_zero_le h.1
      obtain ⟨q1, q2⟩ := hs.t (t := m) (by omega)
      obtain ⟨t1, t2, t3, t4⟩ := hX.1.2.1 m (by omega)
      rw [Int.toNat_natCast]
      have hroom : roomT m ≤ 30 := by unfold roomT; split <;> omega
      refine Ev_of mcd_9 mok_9 (by decide) rfl (Nat.le_of_ble_eq_true rfl) ?_
      rw [show yl 9 = 3 from rfl]
      refine G_w (pfb_ok X) LK_9 (fun i => false) 30 _ _ _ _ ?_
      simp only [f_0, f_s, f_iconst, f_bipush, f_sipush, f_ldc, f_ldc_w, f_ldc2_w, f_ldI, f_ldL, f_ldA, f_iload, f_iload_n, f_lload, f_lload_n, f_aload, f_aload_n, f_istore, f_istore_n, f_lstore, f_lstore_n, f_astore, f_astore_n, f_iinc, f_icI, f_iadd, f_isub, f_imul, f_idiv, f_irem, f_iand, f_ior, f_ixor, f_ishl, f_ishr, f_iushr, f_i2l, f_i2b, f_i2s, f_ladd, f_lmul, f_lcmp, f_dupI, f_dupR, f_dup2, f_pop, f_goto, f_if, f_icmp, f_tab, f_ts0, f_ts1, f_getI, f_getZ, f_getR, f_putI, f_putR, f_gets, f_iald, f_bald, f_aald, f_iast, f_bast, f_aast, f_alen, f_new, f_newa, f_anew, f_virt, f_stat0, f_stat1, f_spec0, f_spec1, f_spec9, f_copy, f_max, f_min, f_cV1, f_cV0, f_cS1, f_cS0, f_iret, f_lret, f_vret, f_kG, pf0, cIg, inR, lget, lset, lset2, clr, entL, cnd, psh, catS, tsw, List.take_succ_cons, List.take_zero, List.drop_succ_cons, List.drop_zero, List.reverse_cons, List.reverse_nil, List.nil_append, List.cons_append, List.length_cons, List.length_nil, List.replicate_succ, List.replicate_zero, Nat.reduceAdd, Nat.reduceSub, Nat.reduceLeDiff, Nat.reduceLT, Nat.reduceEqDiff, Nat.reduceMul, Nat.zero_add, Nat.add_zero, Nat.le_refl, Nat.zero_le, Int.reduceEq, Int.reduceToNat, Int.toNat_natCast, Int.reduceNeg, Int.reduceAdd, Int.reduceSub, Int.reduceMul, Int.reduceLT, Int.reduceLE, Int.reduceDiv, Int.reduceMod, Bool.false_eq_true, ↓reduceIte, true_and, and_true, implies_true, forall_const, true_or, or_true, or_false, false_or, not_true_eq_false, not_false_eq_true, false_implies, Prod.mk.injEq, Fin.val_zero, Fin.val_one, Fin.isValue, Fin.reduceFinMk, Fin.val_two, mR_uI, mK_uI, mN_uI, mI_uR, mK_uR, mN_uR, mR_uC, mK_uC, mN_uC, Option.some.injEq, Sum.inl.injEq, Sum.inr.injEq, decide_true, decide_false, Bool.or_false, Bool.false_or, Bool.or_true, Bool.true_or, Nat.reduceBEq, beq_self_eq_true, show tb 9 = tb_9 from rfl, tb_9, tb_9_0, pfb, pfb_b, pfb_c, pfb_v, pfa_b, pfa_c, pfa_v, hif, hif2, hs.xk0, hs.xr0, hs.xk1, hs.xn1, q1, q2.1]
      refine ⟨by omega, ?_⟩
      refine Ev_mono (e_append X M (14 + 2 * m) (roomT m) b (s.1 m) q2 t1 (by rw [show 14 + 2 * m + 1 = 15 + 2 * m by omega]; exact t2) t3 hroom) (fun r M1 hr _ _ => ?_)
      rcases hr with ⟨n1, rfl, w1, w2, w3, w4⟩ | ⟨n1, rfl, rfl⟩
      · rw [if_neg (by omega)]
        have big := big_gt
        have hS : Same M M1 (fun a => a = 14 + 2 * m ∨ a = 15 + 2 * m) := w4.w (fun a h => by unfold T2 at h; omega)
        have hs1 := hS.shp hs (fun a ha => by omega)
        obtain ⟨x1, x2⟩ := XI.txt (B := s.1 m ++ [b]) (show m < 8 by omega) hX hS (by rw [w1, List.length_append]; rfl) (by rw [show 15 + 2 * m = 14 + 2 * m + 1 by omega]; exact w2) (by rw [List.length_append, List.length_singleton]; omega) (fun c hc => by
          rcases List.mem_append.mp hc with h9 | h9
          · exact t4 c h9
          · rw [List.mem_singleton.mp h9]; omega)
        simp only [f_kG, psh, Nat.reduceAdd]
        refine G_w (pfb_ok X) LK_9 (fun i => false) 30 _ _ _ _ ?_
        simp only [f_0, f_s, f_iconst, f_bipush, f_sipush, f_ldc, f_ldc_w, f_ldc2_w, f_ldI, f_ldL, f_ldA, f_iload, f_iload_n, f_lload, f_lload_n, f_aload, f_aload_n, f_istore, f_istore_n, f_lstore, f_lstore_n, f_astore, f_astore_n, f_iinc, f_icI, f_iadd, f_isub, f_imul, f_idiv, f_irem, f_iand, f_ior, f_ixor, f_ishl, f_ishr, f_iushr, f_i2l, f_i2b, f_i2s, f_ladd, f_lmul, f_lcmp, f_dupI, f_dupR, f_dup2, f_pop, f_goto, f_if, f_icmp, f_tab, f_ts0, f_ts1, f_getI, f_getZ, f_getR, f_putI, f_putR, f_gets, f_iald, f_bald, f_aald, f_iast, f_bast, f_aast, f_alen, f_new, f_newa, f_anew, f_virt, f_stat0, f_stat1, f_spec0, f_spec1, f_spec9, f_copy, f_max, f_min, f_cV1, f_cV0, f_cS1, f_cS0, f_iret, f_lret, f_vret, f_kG, pf0, cIg, inR, lget, lset, lset2, clr, entL, cnd, psh, catS, tsw, List.take_succ_cons, List.take_zero, List.drop_succ_cons, List.drop_zero, List.reverse_cons, List.reverse_nil, List.nil_append, List.cons_append, List.length_cons, List.length_nil, List.replicate_succ, List.replicate_zero, Nat.reduceAdd, Nat.reduceSub, Nat.reduceLeDiff, Nat.reduceLT, Nat.reduceEqDiff, Nat.reduceMul, Nat.zero_add, Nat.add_zero, Nat.le_refl, Nat.zero_le, Int.reduceEq, Int.reduceToNat, Int.toNat_natCast, Int.reduceNeg, Int.reduceAdd, Int.reduceSub, Int.reduceMul, Int.reduceLT, Int.reduceLE, Int.reduceDiv, Int.reduceMod, Bool.false_eq_true, ↓reduceIte, true_and, and_true, implies_true, forall_const, true_or, or_true, or_false, false_or, not_true_eq_false, not_false_eq_true, false_implies, Prod.mk.injEq, Fin.val_zero, Fin.val_one, Fin.isValue, Fin.reduceFinMk, Fin.val_two, mR_uI, mK_uI, mN_uI, mI_uR, mK_uR, mN_uR, mR_uC, mK_uC, mN_uC, Option.some.injEq, Sum.inl.injEq, Sum.inr.injEq, decide_true, decide_false, Bool.or_false, Bool.false_or, Bool.or_true, Bool.true_or, Nat.reduceBEq, beq_self_eq_true, show tb 9 = tb_9 from rfl, tb_9, tb_9_0, pfb, pfb_b, pfb_c, pfb_v, pfa_b, pfa_c, pfa_v, hs1.xk0]
        refine Ev_mono (e_forget X M1 m hs1) (fun r M2 hr _ _ => ?_)
        obtain ⟨rfl, hM2⟩ := hr
        rw [hS.2.2.2 0 3 (by omega)] at hM2
        rw [← hM2] at x1 x2
        have hs2 := x1.1.1
        obtain ⟨q3, q4⟩ := hs2.t (t := m) (by omega)
        have l2 : mI M2 (14 + 2 * m) 1 = ((s.1 m).length : Int) + 1 := by rw [hM2, mI_uI_ne (by omega)]; exact w1
        simp only [f_kG, psh, Nat.reduceAdd]
        refine G_w (pfb_ok X) LK_9 (fun i => false) 30 _ _ _ _ ?_
        simp only [f_0, f_s, f_iconst, f_bipush, f_sipush, f_ldc, f_ldc_w, f_ldc2_w, f_ldI, f_ldL, f_ldA, f_iload, f_iload_n, f_lload, f_lload_n, f_aload, f_aload_n, f_istore, f_istore_n, f_lstore, f_lstore_n, f_astore, f_astore_n, f_iinc, f_icI, f_iadd, f_isub, f_imul, f_idiv, f_irem, f_iand, f_ior, f_ixor, f_ishl, f_ishr, f_iushr, f_i2l, f_i2b, f_i2s, f_ladd, f_lmul, f_lcmp, f_dupI, f_dupR, f_dup2, f_pop, f_goto, f_if, f_icmp, f_tab, f_ts0, f_ts1, f_getI, f_getZ, f_getR, f_putI, f_putR, f_gets, f_iald, f_bald, f_aald, f_iast, f_bast, f_aast, f_alen, f_new, f_newa, f_anew, f_virt, f_stat0, f_stat1, f_spec0, f_spec1, f_spec9, f_copy, f_max, f_min, f_cV1, f_cV0, f_cS1, f_cS0, f_iret, f_lret, f_vret, f_kG, pf0, cIg, inR, lget, lset, lset2, clr, entL, cnd, psh, catS, tsw, List.take_succ_cons, List.take_zero, List.drop_succ_cons, List.drop_zero, List.reverse_cons, List.reverse_nil, List.nil_append, List.cons_append, List.length_cons, List.length_nil, List.replicate_succ, List.replicate_zero, Nat.reduceAdd, Nat.reduceSub, Nat.reduceLeDiff, Nat.reduceLT, Nat.reduceEqDiff, Nat.reduceMul, Nat.zero_add, Nat.add_zero, Nat.le_refl, Nat.zero_le, Int.reduceEq, Int.reduceToNat, Int.toNat_natCast, Int.reduceNeg, Int.reduceAdd, Int.reduceSub, Int.reduceMul, Int.reduceLT, Int.reduceLE, Int.reduceDiv, Int.reduceMod, Bool.false_eq_true, ↓reduceIte, true_and, and_true, implies_true, forall_const, true_or, or_true, or_false, false_or, not_true_eq_false, not_false_eq_true, false_implies, Prod.mk.injEq, Fin.val_zero, Fin.val_one, Fin.isValue, Fin.reduceFinMk, Fin.val_two, mR_uI, mK_uI, mN_uI, mI_uR, mK_uR, mN_uR, mR_uC, mK_uC, mN_uC, Option.some.injEq, Sum.inl.injEq, Sum.inr.injEq, decide_true, decide_false, Bool.or_false, Bool.false_or, Bool.or_true, Bool.true_or, Nat.reduceBEq, beq_self_eq_true, show tb 9 = tb_9 from rfl, tb_9, tb_9_0, pfb, pfb_b, pfb_c, pfb_v, pfa_b, pfa_c, pfa_v, hs2.xk0, hs2.xr0, hs2.xk1, hs2.xn1, q3, q4.1, l2]
        exact ⟨by omega, rfl, x1, x2⟩
      · rw [if_pos n1]
        simp only [f_kG, psh, Nat.reduceAdd]
        refine G_w (pfb_ok X) LK_9 (fun i => false) 30 _ _ _ _ ?_
        simp only [f_0, f_s, f_iconst, f_bipush, f_sipush, f_ldc, f_ldc_w, f_ldc2_w, f_ldI, f_ldL, f_ldA, f_iload, f_iload_n, f_lload, f_lload_n, f_aload, f_aload_n, f_istore, f_istore_n, f_lstore, f_lstore_n, f_astore, f_astore_n, f_iinc, f_icI, f_iadd, f_isub, f_imul, f_idiv, f_irem, f_iand, f_ior, f_ixor, f_ishl, f_ishr, f_iushr, f_i2l, f_i2b, f_i2s, f_ladd, f_lmul, f_lcmp, f_dupI, f_dupR, f_dup2, f_pop, f_goto, f_if, f_icmp, f_tab, f_ts0, f_ts1, f_getI, f_getZ, f_getR, f_putI, f_putR, f_gets, f_iald, f_bald, f_aald, f_iast, f_bast, f_aast, f_alen, f_new, f_newa, f_anew, f_virt, f_stat0, f_stat1, f_spec0, f_spec1, f_spec9, f_copy, f_max, f_min, f_cV1, f_cV0, f_cS1, f_cS0, f_iret, f_lret, f_vret, f_kG, pf0, cIg, inR, lget, lset, lset2, clr, entL, cnd, psh, catS, tsw, List.take_succ_cons, List.take_zero, List.drop_succ_cons, List.drop_zero, List.reverse_cons, List.reverse_nil, List.nil_append, List.cons_append, List.length_cons, List.length_nil, List.replicate_succ, List.replicate_zero, Nat.reduceAdd, Nat.reduceSub, Nat.reduceLeDiff, Nat.reduceLT, Nat.reduceEqDiff, Nat.reduceMul, Nat.zero_add, Nat.add_zero, Nat.le_refl, Nat.zero_le, Int.reduceEq, Int.reduceToNat, Int.toNat_natCast, Int.reduceNeg, Int.reduceAdd, Int.reduceSub, Int.reduceMul, Int.reduceLT, Int.reduceLE, Int.reduceDiv, Int.reduceMod, Bool.false_eq_true, ↓reduceIte, true_and, and_true, implies_true, forall_const, true_or, or_true, or_false, false_or, not_true_eq_false, not_false_eq_true, false_implies, Prod.mk.injEq, Fin.val_zero, Fin.val_one, Fin.isValue, Fin.reduceFinMk, Fin.val_two, mR_uI, mK_uI, mN_uI, mI_uR, mK_uR, mN_uR, mR_uC, mK_uC, mN_uC, Option.some.injEq, Sum.inl.injEq, Sum.inr.injEq, decide_true, decide_false, Bool.or_false, Bool.false_or, Bool.or_true, Bool.true_or, Nat.reduceBEq, beq_self_eq_true, show tb 9 = tb_9 from rfl, tb_9, tb_9_0, pfb, pfb_b, pfb_c, pfb_v, pfa_b, pfa_c, pfa_v]
        exact ⟨rfl, hX, Smr.rf _ _ _⟩
    · have hif2 : (if 0 ≤ b ∧ b < 256 then (1 : Int) else 0) = 0 := if_neg h2
      rw [if_neg h2]
      refine Ev_of mcd_9 mok_9 (by decide) rfl (Nat.le_of_ble_eq_true rfl) ?_
      rw [show yl 9 = 3 from rfl]
      refine G_w (pfb_ok X) LK_9 (fun i => false) 30 _ _ _ _ ?_
      simp only [f_0, f_s, f_iconst, f_bipush, f_sipush, f_ldc, f_ldc_w, f_ldc2_w, f_ldI, f_ldL, f_ldA, f_iload, f_iload_n, f_lload, f_lload_n, f_aload, f_aload_n, f_istore, f_istore_n, f_lstore, f_lstore_n, f_astore, f_astore_n, f_iinc, f_icI, f_iadd, f_isub, f_imul, f_idiv, f_irem, f_iand, f_ior, f_ixor, f_ishl, f_ishr, f_iushr, f_i2l, f_i2b, f_i2s, f_ladd, f_lmul, f_lcmp, f_dupI, f_dupR, f_dup2, f_pop, f_goto, f_if, f_icmp, f_tab, f_ts0, f_ts1, f_getI, f_getZ, f_getR, f_putI, f_putR, f_gets, f_iald, f_bald, f_aald, f_iast, f_bast, f_aast, f_alen, f_new, f_newa, f_anew, f_virt, f_stat0, f_stat1, f_spec0, f_spec1, f_spec9, f_copy, f_max, f_min, f_cV1, f_cV0, f_cS1, f_cS0, f_iret, f_lret, f_vret, f_kG, pf0, cIg, inR, lget, lset, lset2, clr, entL, cnd, psh, catS, tsw, List.take_succ_cons, List.take_zero, List.drop_succ_cons, List.drop_zero, List.reverse_cons, List.reverse_nil, List.nil_append, List.cons_append, List.length_cons, List.length_nil, List.replicate_succ, List.replicate_zero, Nat.reduceAdd, Nat.reduceSub, Nat.reduceLeDiff, Nat.reduceLT, Nat.reduceEqDiff, Nat.reduceMul, Nat.zero_add, Nat.add_zero, Nat.le_refl, Nat.zero_le, Int.reduceEq, Int.reduceToNat, Int.toNat_natCast, Int.reduceNeg, Int.reduceAdd, Int.reduceSub, Int.reduceMul, Int.reduceLT, Int.reduceLE, Int.reduceDiv, Int.reduceMod, Bool.false_eq_true, ↓reduceIte, true_and, and_true, implies_true, forall_const, true_or, or_true, or_false, false_or, not_true_eq_false, not_false_eq_true, false_implies, Prod.mk.injEq, Fin.val_zero, Fin.val_one, Fin.isValue, Fin.reduceFinMk, Fin.val_two, mR_uI, mK_uI, mN_uI, mI_uR, mK_uR, mN_uR, mR_uC, mK_uC, mN_uC, Option.some.injEq, Sum.inl.injEq, Sum.inr.injEq, decide_true, decide_false, Bool.or_false, Bool.false_or, Bool.or_true, Bool.true_or, Nat.reduceBEq, beq_self_eq_true, show tb 9 = tb_9 from rfl, tb_9, tb_9_0, pfb, pfb_b, pfb_c, pfb_v, pfa_b, pfa_c, pfa_v, hif, hif2, hs.xk0]
      exact ⟨rfl, hX, Smr.rf _ _ _⟩
  · have hif : (if 0 ≤ t ∧ t < 8 then (1 : Int) else 0) = 0 := if_neg h
    rw [if_neg h]
    refine Ev_of mcd_9 mok_9 (by decide) rfl (Nat.le_of_ble_eq_true rfl) ?_
    rw [show yl 9 = 3 from rfl]
    refine G_w (pfb_ok X) LK_9 (fun i => false) 30 _ _ _ _ ?_
    simp only [f_0, f_s, f_iconst, f_bipush, f_sipush, f_ldc, f_ldc_w, f_ldc2_w, f_ldI, f_ldL, f_ldA, f_iload, f_iload_n, f_lload, f_lload_n, f_aload, f_aload_n, f_istore, f_istore_n, f_lstore, f_lstore_n, f_astore, f_astore_n, f_iinc, f_icI, f_iadd, f_isub, f_imul, f_idiv, f_irem, f_iand, f_ior, f_ixor, f_ishl, f_ishr, f_iushr, f_i2l, f_i2b, f_i2s, f_ladd, f_lmul, f_lcmp, f_dupI, f_dupR, f_dup2, f_pop, f_goto, f_if, f_icmp, f_tab, f_ts0, f_ts1, f_getI, f_getZ, f_getR, f_putI, f_putR, f_gets, f_iald, f_bald, f_aald, f_iast, f_bast, f_aast, f_alen, f_new, f_newa, f_anew, f_virt, f_stat0, f_stat1, f_spec0, f_spec1, f_spec9, f_copy, f_max, f_min, f_cV1, f_cV0, f_cS1, f_cS0, f_iret, f_lret, f_vret, f_kG, pf0, cIg, inR, lget, lset, lset2, clr, entL, cnd, psh, catS, tsw, List.take_succ_cons, List.take_zero, List.drop_succ_cons, List.drop_zero, List.reverse_cons, List.reverse_nil, List.nil_append, List.cons_append, List.length_cons, List.length_nil, List.replicate_succ, List.replicate_zero, Nat.reduceAdd, Nat.reduceSub, Nat.reduceLeDiff, Nat.reduceLT, Nat.reduceEqDiff, Nat.reduceMul, Nat.zero_add, Nat.add_zero, Nat.le_refl, Nat.zero_le, Int.reduceEq, Int.reduceToNat, Int.toNat_natCast, Int.reduceNeg, Int.reduceAdd, Int.reduceSub, Int.reduceMul, Int.reduceLT, Int.reduceLE, Int.reduceDiv, Int.reduceMod, Bool.false_eq_true, ↓reduceIte, true_and, and_true, implies_true, forall_const, true_or, or_true, or_false, false_or, not_true_eq_false, not_false_eq_true, false_implies, Prod.mk.injEq, Fin.val_zero, Fin.val_one, Fin.isValue, Fin.reduceFinMk, Fin.val_two, mR_uI, mK_uI, mN_uI, mI_uR, mK_uR, mN_uR, mR_uC, mK_uC, mN_uC, Option.some.injEq, Sum.inl.injEq, Sum.inr.injEq, decide_true, decide_false, Bool.or_false, Bool.false_or, Bool.or_true, Bool.true_or, Nat.reduceBEq, beq_self_eq_true, show tb 9 = tb_9 from rfl, tb_9, tb_9_0, pfb, pfb_b, pfb_c, pfb_v, pfa_b, pfa_c, pfa_v, hif, hs.xk0]
    exact ⟨rfl, hX, Smr.rf _ _ _⟩
set_option maxRecDepth 100000 in
set_option maxHeartbeats 4000000 in
theorem e_xwipe (X : CX) (M : Mem) (s : St) (t : Int) (hX : XI M s) : Ev X y_x_wipe (0, 0) [aR (some 0), aI t] M (Qs M (aWipe s t)) := by
  have hs := hX.1.1
  unfold aWipe
  by_cases h : 0 ≤ t ∧ t < 8
  · have hif : (if 0 ≤ t ∧ t < 8 then (1 : Int) else 0) = 1 := if_pos h
    rw [if_pos h]
    obtain ⟨m, rfl⟩ := Int.eq_ofNat_of_zero_le h.1
    obtain ⟨q1, q2⟩ := hs.t (t := m) (by omega)
    obtain ⟨t1, t2, t3, t4⟩ := hX.1.2.1 m (by omega)
    rw [Int.toNat_natCast]
    have big := big_gt
    refine Ev_of mcd_13 mok_13 (by decide) rfl (Nat.le_of_ble_eq_true rfl) ?_
    rw [show yl 13 = 3 from rfl]
    refine G_w (pfb_ok X) LK_13 (fun i => false) 30 _ _ _ _ ?_
    simp only [f_0, f_s, f_iconst, f_bipush, f_sipush, f_ldc, f_ldc_w, f_ldc2_w, f_ldI, f_ldL, f_ldA, f_iload, f_iload_n, f_lload, f_lload_n, f_aload, f_aload_n, f_istore, f_istore_n, f_lstore, f_lstore_n, f_astore, f_astore_n, f_iinc, f_icI, f_iadd, f_isub, f_imul, f_idiv, f_irem, f_iand, f_ior, f_ixor, f_ishl, f_ishr, f_iushr, f_i2l, f_i2b, f_i2s, f_ladd, f_lmul, f_lcmp, f_dupI, f_dupR, f_dup2, f_pop, f_goto, f_if, f_icmp, f_tab, f_ts0, f_ts1, f_getI, f_getZ, f_getR, f_putI, f_putR, f_gets, f_iald, f_bald, f_aald, f_iast, f_bast, f_aast, f_alen, f_new, f_newa, f_anew, f_virt, f_stat0, f_stat1, f_spec0, f_spec1, f_spec9, f_copy, f_max, f_min, f_cV1, f_cV0, f_cS1, f_cS0, f_iret, f_lret, f_vret, f_kG, pf0, cIg, inR, lget, lset, lset2, clr, entL, cnd, psh, catS, tsw, List.take_succ_cons, List.take_zero, List.drop_succ_cons, List.drop_zero, List.reverse_cons, List.reverse_nil, List.nil_append, List.cons_append, List.length_cons, List.length_nil, List.replicate_succ, List.replicate_zero, Nat.reduceAdd, Nat.reduceSub, Nat.reduceLeDiff, Nat.reduceLT, Nat.reduceEqDiff, Nat.reduceMul, Nat.zero_add, Nat.add_zero, Nat.le_refl, Nat.zero_le, Int.reduceEq, Int.reduceToNat, Int.toNat_natCast, Int.reduceNeg, Int.reduceAdd, Int.reduceSub, Int.reduceMul, Int.reduceLT, Int.reduceLE, Int.reduceDiv, Int.reduceMod, Bool.false_eq_true, ↓reduceIte, true_and, and_true, implies_true, forall_const, true_or, or_true, or_false, false_or, not_true_eq_false, not_false_eq_true, false_implies, Prod.mk.injEq, Fin.val_zero, Fin.val_one, Fin.isValue, Fin.reduceFinMk, Fin.val_two, mR_uI, mK_uI, mN_uI, mI_uR, mK_uR, mN_uR, mR_uC, mK_uC, mN_uC, Option.some.injEq, Sum.inl.injEq, Sum.inr.injEq, decide_true, decide_false, Bool.or_false, Bool.false_or, Bool.or_true, Bool.true_or, Nat.reduceBEq, beq_self_eq_true, show tb 13 = tb_13 from rfl, tb_13, tb_13_0, pfb, pfb_b, pfb_c, pfb_v, pfa_b, pfa_c, pfa_v, hif, hs.xk0, hs.xr0, hs.xk1, hs.xn1, q1, q2.1, t1]
    refine ⟨by omega, by omega, ?_⟩
    have hS : Same M (uI M (14 + 2 * m) 1 0) (fun a => a = 14 + 2 * m ∨ a = 15 + 2 * m) := Same.uI (S := fun a => a = 14 + 2 * m ∨ a = 15 + 2 * m) (Same.rf M _) (Or.inl rfl) _ _
    have hs1 := hS.shp hs (fun a ha => by omega)
    obtain ⟨x1, x2⟩ := XI.txt (B := []) (show m < 8 by omega) hX hS mI_uI_eq (fun j b hb => by simp at hb) (by simp) (fun c hc => by cases hc)
    refine Ev_mono (e_forget X _ m hs1) (fun r M2 hr _ _ => ?_)
    obtain ⟨rfl, hM2⟩ := hr
    rw [hS.2.2.2 0 3 (by omega)] at hM2
    rw [← hM2] at x1 x2
    simp only [f_kG, psh, Nat.reduceAdd]
    refine G_w (pfb_ok X) LK_13 (fun i => false) 30 _ _ _ _ ?_
    simp only [f_0, f_s, f_iconst, f_bipush, f_sipush, f_ldc, f_ldc_w, f_ldc2_w, f_ldI, f_ldL, f_ldA, f_iload, f_iload_n, f_lload, f_lload_n, f_aload, f_aload_n, f_istore, f_istore_n, f_lstore, f_lstore_n, f_astore, f_astore_n, f_iinc, f_icI, f_iadd, f_isub, f_imul, f_idiv, f_irem, f_iand, f_ior, f_ixor, f_ishl, f_ishr, f_iushr, f_i2l, f_i2b, f_i2s, f_ladd, f_lmul, f_lcmp, f_dupI, f_dupR, f_dup2, f_pop, f_goto, f_if, f_icmp, f_tab, f_ts0, f_ts1, f_getI, f_getZ, f_getR, f_putI, f_putR, f_gets, f_iald, f_bald, f_aald, f_iast, f_bast, f_aast, f_alen, f_new, f_newa, f_anew, f_virt, f_stat0, f_stat1, f_spec0, f_spec1, f_spec9, f_copy, f_max, f_min, f_cV1, f_cV0, f_cS1, f_cS0, f_iret, f_lret, f_vret, f_kG, pf0, cIg, inR, lget, lset, lset2, clr, entL, cnd, psh, catS, tsw, List.take_succ_cons, List.take_zero, List.drop_succ_cons, List.drop_zero, List.reverse_cons, List.reverse_nil, List.nil_append, List.cons_append, List.length_cons, List.length_nil, List.replicate_succ, List.replicate_zero, Nat.reduceAdd, Nat.reduceSub, Nat.reduceLeDiff, Nat.reduceLT, Nat.reduceEqDiff, Nat.reduceMul, Nat.zero_add, Nat.add_zero, Nat.le_refl, Nat.zero_le, Int.reduceEq, Int.reduceToNat, Int.toNat_natCast, Int.reduceNeg, Int.reduceAdd, Int.reduceSub, Int.reduceMul, Int.reduceLT, Int.reduceLE, Int.reduceDiv, Int.reduceMod, Bool.false_eq_true, ↓reduceIte, true_and, and_true, implies_true, forall_const, true_or, or_true, or_false, false_or, not_true_eq_false, not_false_eq_true, false_implies, Prod.mk.injEq, Fin.val_zero, Fin.val_one, Fin.isValue, Fin.reduceFinMk, Fin.val_two, mR_uI, mK_uI, mN_uI, mI_uR, mK_uR, mN_uR, mR_uC, mK_uC, mN_uC, Option.some.injEq, Sum.inl.injEq, Sum.inr.injEq, decide_true, decide_false, Bool.or_false, Bool.false_or, Bool.or_true, Bool.true_or, Nat.reduceBEq, beq_self_eq_true, show tb 13 = tb_13 from rfl, tb_13, tb_13_0, pfb, pfb_b, pfb_c, pfb_v, pfa_b, pfa_c, pfa_v]
    exact ⟨rfl, x1, x2⟩
  · have hif : (if 0 ≤ t ∧ t < 8 then (1 : Int) else 0) = 0 := if_neg h
    rw [if_neg h]
    refine Ev_of mcd_13 mok_13 (by decide) rfl (Nat.le_of_ble_eq_true rfl) ?_
    rw [show yl 13 = 3 from rfl]
    refine G_w (pfb_ok X) LK_13 (fun i => false) 30 _ _ _ _ ?_
    simp only [f_0, f_s, f_iconst, f_bipush, f_sipush, f_ldc, f_ldc_w, f_ldc2_w, f_ldI, f_ldL, f_ldA, f_iload, f_iload_n, f_lload, f_lload_n, f_aload, f_aload_n, f_istore, f_istore_n, f_lstore, f_lstore_n, f_astore, f_astore_n, f_iinc, f_icI, f_iadd, f_isub, f_imul, f_idiv, f_irem, f_iand, f_ior, f_ixor, f_ishl, f_ishr, f_iushr, f_i2l, f_i2b, f_i2s, f_ladd, f_lmul, f_lcmp, f_dupI, f_dupR, f_dup2, f_pop, f_goto, f_if, f_icmp, f_tab, f_ts0, f_ts1, f_getI, f_getZ, f_getR, f_putI, f_putR, f_gets, f_iald, f_bald, f_aald, f_iast, f_bast, f_aast, f_alen, f_new, f_newa, f_anew, f_virt, f_stat0, f_stat1, f_spec0, f_spec1, f_spec9, f_copy, f_max, f_min, f_cV1, f_cV0, f_cS1, f_cS0, f_iret, f_lret, f_vret, f_kG, pf0, cIg, inR, lget, lset, lset2, clr, entL, cnd, psh, catS, tsw, List.take_succ_cons, List.take_zero, List.drop_succ_cons, List.drop_zero, List.reverse_cons, List.reverse_nil, List.nil_append, List.cons_append, List.length_cons, List.length_nil, List.replicate_succ, List.replicate_zero, Nat.reduceAdd, Nat.reduceSub, Nat.reduceLeDiff, Nat.reduceLT, Nat.reduceEqDiff, Nat.reduceMul, Nat.zero_add, Nat.add_zero, Nat.le_refl, Nat.zero_le, Int.reduceEq, Int.reduceToNat, Int.toNat_natCast, Int.reduceNeg, Int.reduceAdd, Int.reduceSub, Int.reduceMul, Int.reduceLT, Int.reduceLE, Int.reduceDiv, Int.reduceMod, Bool.false_eq_true, ↓reduceIte, true_and, and_true, implies_true, forall_const, true_or, or_true, or_false, false_or, not_true_eq_false, not_false_eq_true, false_implies, Prod.mk.injEq, Fin.val_zero, Fin.val_one, Fin.isValue, Fin.reduceFinMk, Fin.val_two, mR_uI, mK_uI, mN_uI, mI_uR, mK_uR, mN_uR, mR_uC, mK_uC, mN_uC, Option.some.injEq, Sum.inl.injEq, Sum.inr.injEq, decide_true, decide_false, Bool.or_false, Bool.false_or, Bool.or_true, Bool.true_or, Nat.reduceBEq, beq_self_eq_true, show tb 13 = tb_13 from rfl, tb_13, tb_13_0, pfb, pfb_b, pfb_c, pfb_v, pfa_b, pfa_c, pfa_v, hif, hs.xk0]
    exact ⟨rfl, hX, Smr.rf _ _ _⟩
set_option maxRecDepth 100000 in
set_option maxHeartbeats 4000000 in
theorem e_xundo (X : CX) (M : Mem) (s : St) (t : Int) (hX : XI M s) : Ev X y_x_undo (0, 0) [aR (some 0), aI t] M (Qs M (aUndo s t)) := by
  have hs := hX.1.1
  unfold aUndo
  by_cases h : 0 ≤ t ∧ t < 8
  · have hif : (if 0 ≤ t ∧ t < 8 then (1 : Int) else 0) = 1 := if_pos h
    rw [if_pos h]
    obtain ⟨m, rfl⟩ := Int.eq_ofNat_of_zero_le h.1
    obtain ⟨q1, q2⟩ := hs.t (t := m) (by omega)
    obtain ⟨t1, t2, t3, t4⟩ := hX.1.2.1 m (by omega)
    rw [Int.toNat_natCast]
    have big := big_gt
    by_cases hn : s.1 m = []
    · rw [if_pos hn]
      have t0 : mI M (14 + 2 * m) 1 = 0 := by rw [t1, hn]; rfl
      refine Ev_of mcd_14 mok_14 (by decide) rfl (Nat.le_of_ble_eq_true rfl) ?_
      rw [show yl 14 = 2 from rfl]
      refine G_w (pfb_ok X) LK_14 (fun i => false) 30 _ _ _ _ ?_
      simp only [f_0, f_s, f_iconst, f_bipush, f_sipush, f_ldc, f_ldc_w, f_ldc2_w, f_ldI, f_ldL, f_ldA, f_iload, f_iload_n, f_lload, f_lload_n, f_aload, f_aload_n, f_istore, f_istore_n, f_lstore, f_lstore_n, f_astore, f_astore_n, f_iinc, f_icI, f_iadd, f_isub, f_imul, f_idiv, f_irem, f_iand, f_ior, f_ixor, f_ishl, f_ishr, f_iushr, f_i2l, f_i2b, f_i2s, f_ladd, f_lmul, f_lcmp, f_dupI, f_dupR, f_dup2, f_pop, f_goto, f_if, f_icmp, f_tab, f_ts0, f_ts1, f_getI, f_getZ, f_getR, f_putI, f_putR, f_gets, f_iald, f_bald, f_aald, f_iast, f_bast, f_aast, f_alen, f_new, f_newa, f_anew, f_virt, f_stat0, f_stat1, f_spec0, f_spec1, f_spec9, f_copy, f_max, f_min, f_cV1, f_cV0, f_cS1, f_cS0, f_iret, f_lret, f_vret, f_kG, pf0, cIg, inR, lget, lset, lset2, clr, entL, cnd, psh, catS, tsw, List.take_succ_cons, List.take_zero, List.drop_succ_cons, List.drop_zero, List.reverse_cons, List.reverse_nil, List.nil_append, List.cons_append, List.length_cons, List.length_nil, List.replicate_succ, List.replicate_zero, Nat.reduceAdd, Nat.reduceSub, Nat.reduceLeDiff, Nat.reduceLT, Nat.reduceEqDiff, Nat.reduceMul, Nat.zero_add, Nat.add_zero, Nat.le_refl, Nat.zero_le, Int.reduceEq, Int.reduceToNat, Int.toNat_natCast, Int.reduceNeg, Int.reduceAdd, Int.reduceSub, Int.reduceMul, Int.reduceLT, Int.reduceLE, Int.reduceDiv, Int.reduceMod, Bool.false_eq_true, ↓reduceIte, true_and, and_true, implies_true, forall_const, true_or, or_true, or_false, false_or, not_true_eq_false, not_false_eq_true, false_implies, Prod.mk.injEq, Fin.val_zero, Fin.val_one, Fin.isValue, Fin.reduceFinMk, Fin.val_two, mR_uI, mK_uI, mN_uI, mI_uR, mK_uR, mN_uR, mR_uC, mK_uC, mN_uC, Option.some.injEq, Sum.inl.injEq, Sum.inr.injEq, decide_true, decide_false, Bool.or_false, Bool.false_or, Bool.or_true, Bool.true_or, Nat.reduceBEq, beq_self_eq_true, show tb 14 = tb_14 from rfl, tb_14, tb_14_0, pfb, pfb_b, pfb_c, pfb_v, pfa_b, pfa_c, pfa_v, hif, hs.xk0, hs.xr0, hs.xk1, hs.xn1, q1, q2.1, t0]
      exact ⟨by omega, rfl, hX, Smr.rf _ _ _⟩
    · rw [if_neg hn]
      have hpos := List.length_pos_iff.mpr hn
      have t0 : ¬ ((s.1 m).length : Int) = 0 := by omega
      refine Ev_of mcd_14 mok_14 (by decide) rfl (Nat.le_of_ble_eq_true rfl) ?_
      rw [show yl 14 = 2 from rfl]
      refine G_w (pfb_ok X) LK_14 (fun i => false) 30 _ _ _ _ ?_
      simp only [f_0, f_s, f_iconst, f_bipush, f_sipush, f_ldc, f_ldc_w, f_ldc2_w, f_ldI, f_ldL, f_ldA, f_iload, f_iload_n, f_lload, f_lload_n, f_aload, f_aload_n, f_istore, f_istore_n, f_lstore, f_lstore_n, f_astore, f_astore_n, f_iinc, f_icI, f_iadd, f_isub, f_imul, f_idiv, f_irem, f_iand, f_ior, f_ixor, f_ishl, f_ishr, f_iushr, f_i2l, f_i2b, f_i2s, f_ladd, f_lmul, f_lcmp, f_dupI, f_dupR, f_dup2, f_pop, f_goto, f_if, f_icmp, f_tab, f_ts0, f_ts1, f_getI, f_getZ, f_getR, f_putI, f_putR, f_gets, f_iald, f_bald, f_aald, f_iast, f_bast, f_aast, f_alen, f_new, f_newa, f_anew, f_virt, f_stat0, f_stat1, f_spec0, f_spec1, f_spec9, f_copy, f_max, f_min, f_cV1, f_cV0, f_cS1, f_cS0, f_iret, f_lret, f_vret, f_kG, pf0, cIg, inR, lget, lset, lset2, clr, entL, cnd, psh, catS, tsw, List.take_succ_cons, List.take_zero, List.drop_succ_cons, List.drop_zero, List.reverse_cons, List.reverse_nil, List.nil_append, List.cons_append, List.length_cons, List.length_nil, List.replicate_succ, List.replicate_zero, Nat.reduceAdd, Nat.reduceSub, Nat.reduceLeDiff, Nat.reduceLT, Nat.reduceEqDiff, Nat.reduceMul, Nat.zero_add, Nat.add_zero, Nat.le_refl, Nat.zero_le, Int.reduceEq, Int.reduceToNat, Int.toNat_natCast, Int.reduceNeg, Int.reduceAdd, Int.reduceSub, Int.reduceMul, Int.reduceLT, Int.reduceLE, Int.reduceDiv, Int.reduceMod, Bool.false_eq_true, ↓reduceIte, true_and, and_true, implies_true, forall_const, true_or, or_true, or_false, false_or, not_true_eq_false, not_false_eq_true, false_implies, Prod.mk.injEq, Fin.val_zero, Fin.val_one, Fin.isValue, Fin.reduceFinMk, Fin.val_two, mR_uI, mK_uI, mN_uI, mI_uR, mK_uR, mN_uR, mR_uC, mK_uC, mN_uC, Option.some.injEq, Sum.inl.injEq, Sum.inr.injEq, decide_true, decide_false, Bool.or_false, Bool.false_or, Bool.or_true, Bool.true_or, Nat.reduceBEq, beq_self_eq_true, show tb 14 = tb_14 from rfl, tb_14, tb_14_0, pfb, pfb_b, pfb_c, pfb_v, pfa_b, pfa_c, pfa_v, hif, hs.xk0, hs.xr0, hs.xk1, hs.xn1, q1, q2.1, t1, t0]
      refine ⟨by omega, by omega, by unfold roomT at t3; split at t3 <;> omega, ?_⟩
      have hS : Same M (uI M (14 + 2 * m) 1 ((s.1 m).length - 1)) (fun a => a = 14 + 2 * m ∨ a = 15 + 2 * m) := Same.uI (S := fun a => a = 14 + 2 * m ∨ a = 15 + 2 * m) (Same.rf M _) (Or.inl rfl) _ _
      have hs1 := hS.shp hs (fun a ha => by omega)
      have hlt : ((s.1 m).take ((s.1 m).length - 1)).length = (s.1 m).length - 1 := by rw [List.length_take]; omega
      obtain ⟨x1, x2⟩ := XI.txt (B := (s.1 m).take ((s.1 m).length - 1)) (show m < 8 by omega) hX hS (by rw [mI_uI_eq, hlt]; omega) (fun j b hb => by
        rw [mI_uI_ne (by omega)]
        rw [List.getElem?_take] at hb
        split at hb
        · exact t2 j b hb
        · cases hb) (by rw [hlt]; omega) (fun c hc => t4 c (List.mem_of_mem_take hc))
      refine Ev_mono (e_forget X _ m hs1) (fun r M2 hr _ _ => ?_)
      obtain ⟨rfl, hM2⟩ := hr
      rw [hS.2.2.2 0 3 (by omega)] at hM2
      have l2 : mI M2 (14 + 2 * m) 1 = ((s.1 m).length : Int) - 1 := by rw [hM2, mI_uI_ne (by omega)]; exact mI_uI_eq
      rw [← hM2] at x1 x2
      have hs2 := x1.1.1
      obtain ⟨q3, q4⟩ := hs2.t (t := m) (by omega)
      simp only [f_kG, psh, Nat.reduceAdd]
      refine G_w (pfb_ok X) LK_14 (fun i => false) 30 _ _ _ _ ?_
      simp only [f_0, f_s, f_iconst, f_bipush, f_sipush, f_ldc, f_ldc_w, f_ldc2_w, f_ldI, f_ldL, f_ldA, f_iload, f_iload_n, f_lload, f_lload_n, f_aload, f_aload_n, f_istore, f_istore_n, f_lstore, f_lstore_n, f_astore, f_astore_n, f_iinc, f_icI, f_iadd, f_isub, f_imul, f_idiv, f_irem, f_iand, f_ior, f_ixor, f_ishl, f_ishr, f_iushr, f_i2l, f_i2b, f_i2s, f_ladd, f_lmul, f_lcmp, f_dupI, f_dupR, f_dup2, f_pop, f_goto, f_if, f_icmp, f_tab, f_ts0, f_ts1, f_getI, f_getZ, f_getR, f_putI, f_putR, f_gets, f_iald, f_bald, f_aald, f_iast, f_bast, f_aast, f_alen, f_new, f_newa, f_anew, f_virt, f_stat0, f_stat1, f_spec0, f_spec1, f_spec9, f_copy, f_max, f_min, f_cV1, f_cV0, f_cS1, f_cS0, f_iret, f_lret, f_vret, f_kG, pf0, cIg, inR, lget, lset, lset2, clr, entL, cnd, psh, catS, tsw, List.take_succ_cons, List.take_zero, List.drop_succ_cons, List.drop_zero, List.reverse_cons, List.reverse_nil, List.nil_append, List.cons_append, List.length_cons, List.length_nil, List.replicate_succ, List.replicate_zero, Nat.reduceAdd, Nat.reduceSub, Nat.reduceLeDiff, Nat.reduceLT, Nat.reduceEqDiff, Nat.reduceMul, Nat.zero_add, Nat.add_zero, Nat.le_refl, Nat.zero_le, Int.reduceEq, Int.reduceToNat, Int.toNat_natCast, Int.reduceNeg, Int.reduceAdd, Int.reduceSub, Int.reduceMul, Int.reduceLT, Int.reduceLE, Int.reduceDiv, Int.reduceMod, Bool.false_eq_true, ↓reduceIte, true_and, and_true, implies_true, forall_const, true_or, or_true, or_false, false_or, not_true_eq_false, not_false_eq_true, false_implies, Prod.mk.injEq, Fin.val_zero, Fin.val_one, Fin.isValue, Fin.reduceFinMk, Fin.val_two, mR_uI, mK_uI, mN_uI, mI_uR, mK_uR, mN_uR, mR_uC, mK_uC, mN_uC, Option.some.injEq, Sum.inl.injEq, Sum.inr.injEq, decide_true, decide_false, Bool.or_false, Bool.false_or, Bool.or_true, Bool.true_or, Nat.reduceBEq, beq_self_eq_true, show tb 14 = tb_14 from rfl, tb_14, tb_14_0, pfb, pfb_b, pfb_c, pfb_v, pfa_b, pfa_c, pfa_v, hs2.xk0, hs2.xr0, hs2.xk1, hs2.xn1, q3, q4.1, l2]
      exact ⟨by omega, rfl, x1, x2⟩
  · have hif : (if 0 ≤ t ∧ t < 8 then (1 : Int) else 0) = 0 := if_neg h
    rw [if_neg h]
    refine Ev_of mcd_14 mok_14 (by decide) rfl (Nat.le_of_ble_eq_true rfl) ?_
    rw [show yl 14 = 2 from rfl]
    refine G_w (pfb_ok X) LK_14 (fun i => false) 30 _ _ _ _ ?_
    simp only [f_0, f_s, f_iconst, f_bipush, f_sipush, f_ldc, f_ldc_w, f_ldc2_w, f_ldI, f_ldL, f_ldA, f_iload, f_iload_n, f_lload, f_lload_n, f_aload, f_aload_n, f_istore, f_istore_n, f_lstore, f_lstore_n, f_astore, f_astore_n, f_iinc, f_icI, f_iadd, f_isub, f_imul, f_idiv, f_irem, f_iand, f_ior, f_ixor, f_ishl, f_ishr, f_iushr, f_i2l, f_i2b, f_i2s, f_ladd, f_lmul, f_lcmp, f_dupI, f_dupR, f_dup2, f_pop, f_goto, f_if, f_icmp, f_tab, f_ts0, f_ts1, f_getI, f_getZ, f_getR, f_putI, f_putR, f_gets, f_iald, f_bald, f_aald, f_iast, f_bast, f_aast, f_alen, f_new, f_newa, f_anew, f_virt, f_stat0, f_stat1, f_spec0, f_spec1, f_spec9, f_copy, f_max, f_min, f_cV1, f_cV0, f_cS1, f_cS0, f_iret, f_lret, f_vret, f_kG, pf0, cIg, inR, lget, lset, lset2, clr, entL, cnd, psh, catS, tsw, List.take_succ_cons, List.take_zero, List.drop_succ_cons, List.drop_zero, List.reverse_cons, List.reverse_nil, List.nil_append, List.cons_append, List.length_cons, List.length_nil, List.replicate_succ, List.replicate_zero, Nat.reduceAdd, Nat.reduceSub, Nat.reduceLeDiff, Nat.reduceLT, Nat.reduceEqDiff, Nat.reduceMul, Nat.zero_add, Nat.add_zero, Nat.le_refl, Nat.zero_le, Int.reduceEq, Int.reduceToNat, Int.toNat_natCast, Int.reduceNeg, Int.reduceAdd, Int.reduceSub, Int.reduceMul, Int.reduceLT, Int.reduceLE, Int.reduceDiv, Int.reduceMod, Bool.false_eq_true, ↓reduceIte, true_and, and_true, implies_true, forall_const, true_or, or_true, or_false, false_or, not_true_eq_false, not_false_eq_true, false_implies, Prod.mk.injEq, Fin.val_zero, Fin.val_one, Fin.isValue, Fin.reduceFinMk, Fin.val_two, mR_uI, mK_uI, mN_uI, mI_uR, mK_uR, mN_uR, mR_uC, mK_uC, mN_uC, Option.some.injEq, Sum.inl.injEq, Sum.inr.injEq, decide_true, decide_false, Bool.or_false, Bool.false_or, Bool.or_true, Bool.true_or, Nat.reduceBEq, beq_self_eq_true, show tb 14 = tb_14 from rfl, tb_14, tb_14_0, pfb, pfb_b, pfb_c, pfb_v, pfa_b, pfa_c, pfa_v, hif, hs.xk0]
    exact ⟨rfl, hX, Smr.rf _ _ _⟩
