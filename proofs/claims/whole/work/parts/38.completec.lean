/-! complete whole -/
theorem addT_new {o n q : Int} {A : Po} (h : ∀ t ∈ A, t.2 ≠ q) : addT o n q A = A.insertIdx (idx o q A) (n, q) := by
  unfold addT
  split
  · rename_i u hu
    rw [if_neg (h u (List.mem_of_getElem? hu))]
  · rfl
theorem rso_len (o : Int) : ∀ (L A : Po), (L.map (fun t => t.2)).Nodup → (∀ t ∈ A, ∀ u ∈ L, t.2 ≠ u.2) → (rso o A L).length = A.length + L.length
  | [], A, _, _ => rfl
  | u :: L, A, hn, h => by
    have hn2 := List.nodup_cons.mp hn
    have e := addT_new (o := o) (n := u.1) (q := u.2) (A := A) (fun t ht => h t ht u List.mem_cons_self)
    have ih := rso_len o L (addT o u.1 u.2 A) hn2.2 (fun t ht v hv => by
      rw [e, List.mem_insertIdx (idx_le o u.2 A)] at ht
      rcases ht with rfl | ht
      · exact fun h9 => hn2.1 (List.mem_map.mpr ⟨v, hv, h9.symm⟩)
      · exact h t ht v (List.mem_cons_of_mem _ hv))
    have e2 : rso o A (u :: L) = rso o (addT o u.1 u.2 A) L := rfl
    rw [e2, ih, e, List.length_insertIdx, if_pos (idx_le o u.2 A), List.length_cons]
    omega
theorem rso_ok {o : Int} : ∀ (L A : Po), okP L → okP A → okP (rso o A L)
  | [], A, _, h => h
  | u :: L, A, hL, h => rso_ok L _ (fun t ht => hL t (List.mem_cons_of_mem _ ht)) (addT_ok h (hL u List.mem_cons_self).1 (hL u List.mem_cons_self).2)
theorem filF_ok (o lo : Int) : ∀ (Ls : List Po) (g : Nat) (pl : List Po), (∀ L ∈ Ls, okP L ∧ (L.map (fun t => t.2)).Nodup) → okL pl → okL (filF o lo Ls g pl)
  | [], g, pl, _, h => h
  | L :: Ls, g, pl, hL, h => by
    have hL1 := hL L List.mem_cons_self
    have hL2 : ∀ x ∈ Ls, okP x ∧ (x.map (fun t => t.2)).Nodup := fun x hx => hL x (List.mem_cons_of_mem _ hx)
    rw [filF]
    split
    · exact filF_ok o lo Ls _ pl hL2 h
    · rename_i h9
      refine filF_ok o lo Ls _ _ hL2 (okL_app h (mon_ok (rso_ok L [] hL1.1 (fun t ht => by cases ht))) (mon_ne (fun e => ?_)))
      have hl := rso_len o L [] hL1.2 (fun t ht => by cases ht)
      rw [e] at hl
      have : L ≠ [] := fun e => h9 (Or.inr e)
      have := List.length_pos_iff.mpr this
      simp only [List.length_nil] at hl
      omega
theorem CW_u4 {M : Mem} {c : Nat} {o o' : Int} {ps qs : List Nat} (h : CW M c o' ps qs) (ho : 0 ≤ o ∧ o ≤ 2) : CW (uI M c 4 o) c o ps qs := by
  obtain ⟨h1, hcc, h3, h4, h5, h6, h7, h8⟩ := h
  have hb := big_gt
  have hS : Smr M (uI M c 4 o) (fun a => a = c) (fun _ => False) := (Smr.rf M (fun a => a = c) (fun _ => False)).uI rfl 4 o
  exact ⟨hS.ext h1 (fun a ha => by omega), hcc, h3, mI_uI_eq, ho, h6, h7, h8⟩
set_option maxRecDepth 100000 in
set_option maxHeartbeats 4000000 in
theorem e_complete (X : CX) (M : Mem) (c va : Nat) (o o' lo : Int) (ps qs vs : List Nat) (Ls : List Po) (hW : CW M c o' ps qs) (ho : 0 ≤ o ∧ o ≤ 2) (hra : RA M (c + 1) 24 ps) (hr : RA M 59 100 qs) (hv : VA M va vs Ls) (hnd : ∀ L ∈ Ls, (L.map (fun t => t.2)).Nodup) : Ev X y_Completion_complete (0, 0) [aR (some c), aR (some va), aI lo, aI o] M (CD M c o (cmL o 120 0 [] (filF o lo Ls 0 []))) := by
  have hW0 := hW
  obtain ⟨hE, hcc, hca, ho1, ho2, htk, hrp, hrq⟩ := hW
  obtain ⟨c1, c2, c3, c4, -⟩ := hca
  have k1 := hra.1
  refine Ev_of mcd_41 mok_41 (by decide) rfl (Nat.le_of_ble_eq_true rfl) ?_
  rw [show yl 41 = 4 from rfl]
  refine G_w (pfb_ok X) LK_41 (fun i => i == 17 || i == 59) 20 _ _ _ _ ?_
  simp only [f_0, f_s, f_iconst, f_bipush, f_sipush, f_ldc, f_ldc_w, f_ldc2_w, f_ldI, f_ldL, f_ldA, f_iload, f_iload_n, f_lload, f_lload_n, f_aload, f_aload_n, f_istore, f_istore_n, f_lstore, f_lstore_n, f_astore, f_astore_n, f_iinc, f_icI, f_iadd, f_isub, f_imul, f_idiv, f_irem, f_iand, f_ior, f_ixor, f_ishl, f_ishr, f_iushr, f_i2l, f_i2b, f_i2s, f_ladd, f_lmul, f_lcmp, f_dupI, f_dupR, f_dup2, f_pop, f_goto, f_if, f_icmp, f_tab, f_ts0, f_ts1, f_getI, f_getZ, f_getR, f_putI, f_putR, f_gets, f_iald, f_bald, f_aald, f_iast, f_bast, f_aast, f_alen, f_new, f_newa, f_anew, f_virt, f_stat0, f_stat1, f_spec0, f_spec1, f_spec9, f_copy, f_max, f_min, f_cV1, f_cV0, f_cS1, f_cS0, f_iret, f_lret, f_vret, f_kG, pf0, cIg, inR, lget, lset, lset2, clr, entL, cnd, psh, catS, tsw, List.take_succ_cons, List.take_zero, List.drop_succ_cons, List.drop_zero, List.reverse_cons, List.reverse_nil, List.nil_append, List.cons_append, List.length_cons, List.length_nil, List.replicate_succ, List.replicate_zero, Nat.reduceAdd, Nat.reduceSub, Nat.reduceLeDiff, Nat.reduceLT, Nat.reduceEqDiff, Nat.reduceMul, Nat.zero_add, Nat.add_zero, Nat.le_refl, Nat.zero_le, Int.reduceEq, Int.reduceToNat, Int.toNat_natCast, Int.reduceNeg, Int.reduceAdd, Int.reduceSub, Int.reduceMul, Int.reduceLT, Int.reduceLE, Int.reduceDiv, Int.reduceMod, Bool.false_eq_true, ↓reduceIte, true_and, and_true, implies_true, forall_const, true_or, or_true, or_false, false_or, not_true_eq_false, not_false_eq_true, false_implies, Prod.mk.injEq, Fin.val_zero, Fin.val_one, Fin.isValue, Fin.reduceFinMk, Fin.val_two, mR_uI, mK_uI, mN_uI, mI_uR, mK_uR, mN_uR, mR_uC, mK_uC, mN_uC, Option.some.injEq, Sum.inl.injEq, Sum.inr.injEq, decide_true, decide_false, Bool.or_false, Bool.false_or, Bool.or_true, Bool.true_or, Nat.reduceBEq, beq_self_eq_true, show tb 41 = tb_41 from rfl, tb_41, tb_41_0, tb_41_1, tb_41_2, pfb, pfb_b, pfb_c, pfb_v, pfa_b, pfa_c, pfa_v, c1, c2, k1]
  have hW2 : CW (uI (uI (uI (uI M c 4 o) c 1 0) c 2 0) (c + 1) 1 0) c o ps qs := (CW_uc (CW_uc (CW_u4 hW0 ho) (by omega)) (by omega)).smr ((Smr.rf _ _ _).uI (by unfold CR; omega) 1 0) hrp hrq
  have hS2 : Same M (uI (uI (uI (uI M c 4 o) c 1 0) c 2 0) (c + 1) 1 0) (CRc c) := ((((Same.rf M (CRc c)).uI (Or.inl rfl) 4 o).uI (Or.inl rfl) 1 0).uI (Or.inl rfl) 2 0).uI (by unfold CRc CR; omega) 1 0
  have g0 : mI (uI (uI (uI (uI M c 4 o) c 1 0) c 2 0) (c + 1) 1 0) (c + 1) 1 = 0 := mI_uI_eq
  have g1 : mI (uI (uI (uI (uI M c 4 o) c 1 0) c 2 0) (c + 1) 1 0) c 1 = 0 := (mI_uI_ne (by omega)).trans ((mI_uI_nk (by omega)).trans mI_uI_eq)
  have g2 : mI (uI (uI (uI (uI M c 4 o) c 1 0) c 2 0) (c + 1) 1 0) c 2 = 0 := (mI_uI_ne (by omega)).trans mI_uI_eq
  generalize uI (uI (uI (uI M c 4 o) c 1 0) c 2 0) (c + 1) 1 0 = M2 at hW2 hS2 g0 g1 g2 ⊢
  have hr2 : RA M2 59 100 qs := RA_smr hr (hS2.smr (fun _ => False)) (fun h => h) (fun h => h) (fun _ _ h => h)
  have hra2 : RA M2 (c + 1) 24 ps := RA_smr hra (hS2.smr (fun _ => False)) (fun h => h) (fun h => h) (fun _ _ h => h)
  have hv2 : VA M2 va vs Ls := by
    obtain ⟨h1, h2, h3, h4, h5, h6⟩ := hv
    refine ⟨(hS2.1 _).trans h1, (hS2.2.1 _).trans h2, h3, h4, fun j v hv => ?_, fun j L hL => ?_⟩
    · obtain ⟨a, b, d⟩ := h5 j v hv
      exact ⟨(hS2.2.2.1 _ _).trans a, hS2.pa b, d⟩
    · obtain ⟨v, a, b, d⟩ := h6 j L hL
      have hv := (h5 j v a).2.2
      exact ⟨v, a, PL_same b hS2.2.2.2 (by unfold CRc CR; omega) (by unfold CRc CR; omega) (by unfold CRc CR; omega), d⟩
  refine Ev_mono (e_fillPile X M2 c va o lo ps qs vs Ls hW2 hr2 hv2) (fun r M3 hr _ _ => ?_)
  obtain ⟨rfl, w1, w2, w3⟩ := hr
  have hW3 := hW2.smr (w1.smr (CQ c)) hrp hrq
  have hra3 : RA M3 (c + 1) 24 ps := RA_smr hra2 (w1.smr (fun _ => False)) (fun h => h) (fun h => h) (fun _ _ h => h)
  have hfo := filF_ok o lo Ls 0 [] (fun L hL => ⟨by
    obtain ⟨j, hj, e⟩ := List.mem_iff_getElem.mp hL
    obtain ⟨v, -, -, d⟩ := hv.2.2.2.2.2 j L (by rw [← e]; exact List.getElem?_eq_getElem hj)
    exact d, hnd L hL⟩) (fun x hx => by cases hx)
  exact c_loop X M c va o lo o 120 0 [] _ ps qs M3 rfl hW3 ⟨hra3, w3.trans g0, by simp, fun j L h => by simp at h⟩ w2 (fun b hb => by cases hb) hfo ((hS2.smr (CQ c)).tr ((w1.smr (CQ c)).w (fun _ h => Or.inr h) (fun _ h => h))) ((w1.2.2.2 _ _ (by unfold CR; omega)).trans g1) ((w1.2.2.2 _ _ (by unfold CR; omega)).trans g2)
