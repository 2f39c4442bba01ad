/-! isNormal -/
/-- what holds of one of the basis by an order -/
def okS (o : Int) (b : Mb) : Prop := okM b ∧ srt o b.1 ∧ (b.1.headD (0, 0)).1 = 1
def free (bs : List Mb) (t : Int × Int) : Prop := ownB t.2 bs = none
theorem okS_cons {o : Int} {b : Mb} (h : okS o b) : ∃ h0 B0, hd b.1 = h0 ∧ b.1 = (1, h0) :: B0 := by
  obtain ⟨⟨-, h2, -⟩, -, h4⟩ := h
  cases hb : b.1 with
  | nil => exact absurd hb h2
  | cons t B0 =>
    rw [hb] at h4
    have h4 : t.1 = 1 := h4
    exact ⟨t.2, B0, rfl, by rw [← h4]⟩
/-- a turn that takes away: what comes in the place of the term is behind it -/
theorem turn_ok {o : Int} {b : Mb} {t : Int × Int} {A : Po} (hb : okS o b) (okA : okP (t :: A)) (hA : srt o (t :: A)) (hf : isPr (t.2 - hd b.1)) (hbr : brs b.1 (t.2 - hd b.1) = true) : okP (mrg o (31 - t.1) (t.2 - hd b.1) (t :: A) b.1) ∧ srt o (mrg o (31 - t.1) (t.2 - hd b.1) (t :: A) b.1) ∧ ∀ u ∈ mrg o (31 - t.1) (t.2 - hd b.1) (t :: A) b.1, rk o u.2 < rk o t.2 := by
  obtain ⟨h0, B0, hh, hB0⟩ := okS_cons hb
  rw [hh] at hf hbr ⊢
  have hF := srt_F hb.1.1 hf hbr hb.2.1
  have hsrt := mrg_srt o (31 - t.1) (t.2 - h0) (t :: A) b.1 hA hF
  have hok := mrg_ok o (31 - t.1) (t.2 - h0) (t :: A) b.1 okA (brs_pr hb.1.1 hf hbr)
  refine ⟨hok, hsrt, ?_⟩
  have e1 : h0 + (t.2 - h0) = t.2 := by omega
  have e : mrg o (31 - t.1) (t.2 - h0) (t :: A) b.1 = mrg o (31 - t.1) (t.2 - h0) A B0 := by
    rw [hB0, mrg]
    have ot := (okA t List.mem_cons_self).1
    have e2 : (t.1 + (31 - t.1) * 1) % 31 = 0 := by omega
    simp only [e1, Int.lt_irrefl, if_false, e2]
    rfl
  rw [e]
  intro u hu
  obtain ⟨a1, -⟩ := List.pairwise_cons.mp hA
  rw [hB0] at hF
  obtain ⟨b1, -⟩ := List.pairwise_cons.mp hF
  rcases mrg_mem o _ _ A B0 u hu with ⟨c, h1, h2⟩ | ⟨c, h1, h2⟩
  · rw [h2]; exact a1 c h1
  · rw [h2]
    have h9 : rk o (c.2 + (t.2 - h0)) < rk o (h0 + (t.2 - h0)) := b1 c h1
    rw [e1] at h9
    exact h9
theorem split_at {L : Po} {s : Nat} {t : Int × Int} (h : L[s]? = some t) : L.drop s = t :: L.drop (s + 1) ∧ L = L.take s ++ t :: L.drop (s + 1) := by
  have hs := (List.getElem?_eq_some_iff.mp h).1
  have e : L.drop s = t :: L.drop (s + 1) := by
    rw [List.drop_eq_getElem_cons hs]
    rw [List.getElem?_eq_getElem hs, Option.some.injEq] at h
    rw [h]
  refine ⟨e, ?_⟩
  rw [← e, List.take_append_drop]
/-- the whole merge is the terms ahead and the merge behind -/
theorem mrg_take {o : Int} {b : Mb} {t : Int × Int} {L : Po} {s : Nat} (hb : okS o b) (hL : srt o L) (ht : L[s]? = some t) : mrg o (31 - t.1) (t.2 - hd b.1) L b.1 = L.take s ++ mrg o (31 - t.1) (t.2 - hd b.1) (L.drop s) b.1 := by
  obtain ⟨h0, B0, hh, hB0⟩ := okS_cons hb
  obtain ⟨e1, e2⟩ := split_at ht
  rw [hh, hB0]
  conv => lhs; rw [e2]
  conv => rhs; rw [e1]
  refine mrg_pre o _ _ _ _ _ _ (fun u hu => ?_)
  rw [show (1, h0).2 + (t.2 - h0) = t.2 from show h0 + (t.2 - h0) = t.2 by omega]
  unfold srt at hL
  rw [e2] at hL
  exact (List.pairwise_append.mp hL).2.2 u hu t List.mem_cons_self
/-- how a normal form ends -/
def NF2 (M : Mem) (res : Bool × Po) (r : Option AV) (M' : Mem) : Prop := Fr M M' (fun a => a = 7) NN (fun a => a = 528) ∧ r = some (aI (if res.1 = true then 1 else 0)) ∧ (res.1 = true → TP M' 7 res.2)
theorem next_ok {o : Int} {L : Po} {s : Nat} {t : Int × Int} {bs : List Mb} {b : Mb} (hb : okS o b) (hL : srt o L) (okL : okP L) (ht : L[s]? = some t) (hf : isPr (t.2 - hd b.1)) (hbr : brs b.1 (t.2 - hd b.1) = true) : okP (L.take s ++ mrg o (31 - t.1) (t.2 - hd b.1) (L.drop s) b.1) ∧ srt o (L.take s ++ mrg o (31 - t.1) (t.2 - hd b.1) (L.drop s) b.1) ∧ ∀ u, (L.take s ++ mrg o (31 - t.1) (t.2 - hd b.1) (L.drop s) b.1)[s]? = some u → isPr u.2 ∧ rk o u.2 < rk o t.2 := by
  obtain ⟨e1, e2⟩ := split_at ht
  have hs := (List.getElem?_eq_some_iff.mp ht).1
  have okD : okP (t :: L.drop (s + 1)) := by rw [← e1]; exact fun u hu => okL u (List.mem_of_mem_drop hu)
  have srtD : srt o (t :: L.drop (s + 1)) := by rw [← e1]; exact List.Pairwise.sublist (List.drop_sublist s L) hL
  have hpre : ∀ u ∈ L.take s, rk o t.2 < rk o u.2 := by
    intro u hu
    have h9 := hL
    unfold srt at h9
    rw [e2] at h9
    exact (List.pairwise_append.mp h9).2.2 u hu t List.mem_cons_self
  obtain ⟨g1, g2, g3⟩ := turn_ok hb okD srtD hf hbr
  rw [← e1] at g1 g2 g3
  refine ⟨fun u hu => ?_, ?_, fun u hu => ?_⟩
  · rcases List.mem_append.mp hu with h | h
    · exact okL u (List.mem_of_mem_take h)
    · exact g1 u h
  · refine List.pairwise_append.mpr ⟨List.Pairwise.sublist (List.take_sublist s L) hL, g2, fun u hu v hv => ?_⟩
    have h1 := hpre u hu
    have h2 := g3 v hv
    omega
  · have hlen : (L.take s).length = s := by rw [List.length_take]; omega
    rw [List.getElem?_append_right (by omega), hlen, Nat.sub_self] at hu
    have hm := List.mem_of_getElem? hu
    exact ⟨(g1 u hm).2, g3 u hm⟩
theorem own_in {q : Int} {bs : List Mb} {b : Mb} (h : ownB q bs = some b) : b ∈ bs ∧ inC b.2.1 (hd b.1) q = true := ⟨List.mem_of_find?_eq_some h, List.find?_some (p := fun b : Mb => inC b.2.1 (hd b.1) q) h⟩
/-- what a normal form is: sorted, and no term of it in a cone -/
theorem nfF_nf {o : Int} {bs : List Mb} (hbs : ∀ b ∈ bs, okS o b) : ∀ (k s : Nat) (L : Po), okP L → srt o L → (∀ t, L[s]? = some t → cntR o (rk o t.2) < k) → (∀ j t, j < s → L[j]? = some t → free bs t) → (nfF o bs k s L).1 = true → okP (nfF o bs k s L).2 ∧ srt o (nfF o bs k s L).2 ∧ ∀ t ∈ (nfF o bs k s L).2, free bs t
  | 0, s, L, okL, hL, hc, hfr, _ => by
    rw [nfF]
    refine ⟨okL, hL, fun t ht => ?_⟩
    obtain ⟨j, hj, e⟩ := List.mem_iff_getElem.mp ht
    have hn : L[s]? = none := by
      cases h : L[s]? with
      | none => rfl
      | some u => exact absurd (hc u h) (by omega)
    have := List.getElem?_eq_none_iff.mp hn
    have hj2 : j < L.length := hj
    exact hfr j t (by omega) (by rw [← e]; exact List.getElem?_eq_getElem hj)
  | k + 1, s, L, okL, hL, hc, hfr, h1 => by
    rw [nfF] at h1 ⊢
    cases hs : L[s]? with
    | none =>
      rw [hs] at h1
      refine ⟨okL, hL, fun t ht => ?_⟩
      obtain ⟨j, hj, e⟩ := List.mem_iff_getElem.mp ht
      have := List.getElem?_eq_none_iff.mp hs
      have hj2 : j < L.length := hj
      exact hfr j t (by omega) (by rw [← e]; exact List.getElem?_eq_getElem hj)
    | some t =>
      rw [hs] at h1
      simp only at h1 ⊢
      have hct := hc t hs
      cases hw : ownB t.2 bs with
      | none =>
        rw [hw] at h1
        simp only at h1 ⊢
        refine nfF_nf hbs k (s + 1) L okL hL (fun u hu => ?_) (fun j u hj hu => ?_) h1
        · have hlt : rk o u.2 < rk o t.2 := by
            obtain ⟨e1, -⟩ := split_at hs
            have h9 : srt o (L.drop s) := List.Pairwise.sublist (List.drop_sublist s L) hL
            rw [e1] at h9
            have h8 : (L.drop (s + 1))[0]? = some u := by rw [List.getElem?_drop]; exact hu
            exact (List.pairwise_cons.mp h9).1 u (List.mem_of_getElem? h8)
          have := cnt_lt (o := o) (r' := rk o u.2) (okL u (List.mem_of_getElem? hu)).2 hlt (Int.le_refl _)
          omega
        · by_cases hjs : j = s
          · subst hjs
            rw [hs] at hu; cases hu
            exact hw
          · exact hfr j u (by omega) hu
      | some b =>
        rw [hw] at h1
        simp only at h1 ⊢
        obtain ⟨hbm, hin⟩ := own_in hw
        have okt := okL t (List.mem_of_getElem? hs)
        have hsb := hbs b hbm
        have hf := inC_pr (hd_ok hsb.1.1 hsb.1.2.1) okt.2 hin
        split at h1
        · rename_i hcnd
          rw [if_pos hcnd]
          obtain ⟨g1, g2, g3⟩ := next_ok (bs := bs) hsb hL okL hs hf hcnd.1
          have hslt := (List.getElem?_eq_some_iff.mp hs).1
          refine nfF_nf hbs k s _ g1 g2 (fun u hu => ?_) (fun j u hj hu => ?_) h1
          · obtain ⟨q1, q2⟩ := g3 u hu
            have := cnt_lt (o := o) (r' := rk o u.2) q1 q2 (Int.le_refl _)
            omega
          · have hlen : (L.take s).length = s := by rw [List.length_take]; omega
            rw [List.getElem?_append_left (by omega), List.getElem?_take, if_pos hj] at hu
            exact hfr j u hj hu
        · cases h1
set_option maxRecDepth 100000 in
set_option maxHeartbeats 4000000 in
theorem e_isNormal (X : CX) (M : Mem) (o : Int) (L : Po) (bs : List Mb) (hs : Shp M) (ho : mI M 521 0 = o) (ho2 : 0 ≤ o ∧ o ≤ 2) (hb : RBt M bs) (hg : RBg M bs) (hbs : ∀ b ∈ bs, okS o b) (hL : TP M 7 L) (okL : okP L) (srtL : srt o L) : Ev X y_m_isNormal (0, 0) [aR (some 521)] M (NF2 M (nfF o bs 32768 0 L)) := by
  have okb : okB bs := fun b hb => (hbs b hb).1
  have loop : ∀ (k s : Nat) (L1 : Po) (M1 : Mem) (v2 v3 : Option AV), s ≤ L1.length → okP L1 → srt o L1 → (∀ t, L1[s]? = some t → cntR o (rk o t.2) < k) → TP M1 7 L1 → Fr M M1 (fun a => a = 7) NN (fun a => a = 528) → G X y_m_isNormal (mZ M, mS M, 0, 0) 2 [some (aR (some 521)), some (aI s), v2, v3] [] M1 (NF2 M (nfF o bs k s L1)) := by
    intro k
    induction k with
    | zero =>
      intro s L1 M1 v2 v3 hsl ok1 srt1 hc hT hF
      have hn : L1[s]? = none := by
        cases h : L1[s]? with
        | none => rfl
        | some u => exact absurd (hc u h) (by omega)
      have hge : (L1.length : Int) ≤ (s : Int) := by
        have := List.getElem?_eq_none_iff.mp hn
        omega
      have hs1 := hF.shp hs
      have l1 := hT.1
      refine G_w (pfb_ok X) LK_138 (fun i => i == 2) 30 _ _ _ _ ?_
      simp only [f_0, f_s, f_iconst, f_bipush, f_sipush, f_ldc, f_ldc_w, f_ldc2_w, f_ldI, f_ldL, f_ldA, f_iload, f_iload_n, f_lload, f_lload_n, f_aload, f_aload_n, f_istore, f_istore_n, f_lstore, f_lstore_n, f_astore, f_astore_n, f_iinc, f_icI, f_iadd, f_isub, f_imul, f_idiv, f_irem, f_iand, f_ior, f_ixor, f_ishl, f_ishr, f_iushr, f_i2l, f_i2b, f_i2s, f_ladd, f_lmul, f_lcmp, f_dupI, f_dupR, f_dup2, f_pop, f_goto, f_if, f_icmp, f_tab, f_ts0, f_ts1, f_getI, f_getZ, f_getR, f_putI, f_putR, f_gets, f_iald, f_bald, f_aald, f_iast, f_bast, f_aast, f_alen, f_new, f_newa, f_anew, f_virt, f_stat0, f_stat1, f_spec0, f_spec1, f_spec9, f_copy, f_max, f_min, f_cV1, f_cV0, f_cS1, f_cS0, f_iret, f_lret, f_vret, f_kG, pf0, cIg, inR, lget, lset, lset2, clr, entL, cnd, psh, catS, tsw, List.take_succ_cons, List.take_zero, List.drop_succ_cons, List.drop_zero, List.reverse_cons, List.reverse_nil, List.nil_append, List.cons_append, List.length_cons, List.length_nil, List.replicate_succ, List.replicate_zero, Nat.reduceAdd, Nat.reduceSub, Nat.reduceLeDiff, Nat.reduceLT, Nat.reduceEqDiff, Nat.reduceMul, Nat.zero_add, Nat.add_zero, Nat.le_refl, Nat.zero_le, Int.reduceEq, Int.reduceToNat, Int.toNat_natCast, Int.reduceNeg, Int.reduceAdd, Int.reduceSub, Int.reduceMul, Int.reduceLT, Int.reduceLE, Int.reduceDiv, Int.reduceMod, Bool.false_eq_true, ↓reduceIte, true_and, and_true, implies_true, forall_const, true_or, or_true, or_false, false_or, not_true_eq_false, not_false_eq_true, false_implies, Prod.mk.injEq, Fin.val_zero, Fin.val_one, Fin.isValue, Fin.reduceFinMk, Fin.val_two, mR_uI, mK_uI, mN_uI, mI_uR, mK_uR, mN_uR, mR_uC, mK_uC, mN_uC, Option.some.injEq, Sum.inl.injEq, Sum.inr.injEq, decide_true, decide_false, Bool.or_false, Bool.false_or, Bool.or_true, Bool.true_or, Nat.reduceBEq, beq_self_eq_true, show tb 138 = tb_138 from rfl, tb_138, tb_138_0, tb_138_1, pfb, pfb_b, pfb_c, pfb_v, pfa_b, pfa_c, pfa_v, hs1.mr1, hs1.mr2, hs1.mr3, hs1.mr4, hs1.mr5, hs1.mr14, hs1.mr15, hs1.mr16, hs1.mr18, hs1.mr19, hs1.mr20, hs1.mr21, hs1.mr22, hs1.mr23, hs1.mk521, hs1.mk522, hs1.mn522, hs1.mk523, hs1.mn523, hs1.mk524, hs1.mn524, hs1.mk525, hs1.mn525, hs1.mk526, hs1.mn526, hs1.mk527, hs1.mn527, hs1.mk528, hs1.mn528, hs1.mk529, hs1.mn529, hs1.mk530, hs1.mn530, hs1.mk531, hs1.mn531, hs1.mk532, hs1.mn532, hs1.mk533, hs1.mn533, hs1.mk534, hs1.mn534, hs1.mk535, hs1.mn535, l1, hge]
      exact ⟨by omega, hF, rfl, fun _ => hT⟩
    | succ k ih =>
      intro s L1 M1 v2 v3 hsl ok1 srt1 hc hT hF
      have hs1 := hF.shp hs
      have l1 := hT.1
      have l30 := hT.2.1
      cases hs9 : L1[s]? with
      | none =>
        have hge : (L1.length : Int) ≤ (s : Int) := by
          have := List.getElem?_eq_none_iff.mp hs9
          omega
        have hn : nfF o bs (k + 1) s L1 = (true, L1) := by unfold nfF; rw [hs9]
        rw [hn]
        refine G_w (pfb_ok X) LK_138 (fun i => i == 2) 30 _ _ _ _ ?_
        simp only [f_0, f_s, f_iconst, f_bipush, f_sipush, f_ldc, f_ldc_w, f_ldc2_w, f_ldI, f_ldL, f_ldA, f_iload, f_iload_n, f_lload, f_lload_n, f_aload, f_aload_n, f_istore, f_istore_n, f_lstore, f_lstore_n, f_astore, f_astore_n, f_iinc, f_icI, f_iadd, f_isub, f_imul, f_idiv, f_irem, f_iand, f_ior, f_ixor, f_ishl, f_ishr, f_iushr, f_i2l, f_i2b, f_i2s, f_ladd, f_lmul, f_lcmp, f_dupI, f_dupR, f_dup2, f_pop, f_goto, f_if, f_icmp, f_tab, f_ts0, f_ts1, f_getI, f_getZ, f_getR, f_putI, f_putR, f_gets, f_iald, f_bald, f_aald, f_iast, f_bast, f_aast, f_alen, f_new, f_newa, f_anew, f_virt, f_stat0, f_stat1, f_spec0, f_spec1, f_spec9, f_copy, f_max, f_min, f_cV1, f_cV0, f_cS1, f_cS0, f_iret, f_lret, f_vret, f_kG, pf0, cIg, inR, lget, lset, lset2, clr, entL, cnd, psh, catS, tsw, List.take_succ_cons, List.take_zero, List.drop_succ_cons, List.drop_zero, List.reverse_cons, List.reverse_nil, List.nil_append, List.cons_append, List.length_cons, List.length_nil, List.replicate_succ, List.replicate_zero, Nat.reduceAdd, Nat.reduceSub, Nat.reduceLeDiff, Nat.reduceLT, Nat.reduceEqDiff, Nat.reduceMul, Nat.zero_add, Nat.add_zero, Nat.le_refl, Nat.zero_le, Int.reduceEq, Int.reduceToNat, Int.toNat_natCast, Int.reduceNeg, Int.reduceAdd, Int.reduceSub, Int.reduceMul, Int.reduceLT, Int.reduceLE, Int.reduceDiv, Int.reduceMod, Bool.false_eq_true, ↓reduceIte, true_and, and_true, implies_true, forall_const, true_or, or_true, or_false, false_or, not_true_eq_false, not_false_eq_true, false_implies, Prod.mk.injEq, Fin.val_zero, Fin.val_one, Fin.isValue, Fin.reduceFinMk, Fin.val_two, mR_uI, mK_uI, mN_uI, mI_uR, mK_uR, mN_uR, mR_uC, mK_uC, mN_uC, Option.some.injEq, Sum.inl.injEq, Sum.inr.injEq, decide_true, decide_false, Bool.or_false, Bool.false_or, Bool.or_true, Bool.true_or, Nat.reduceBEq, beq_self_eq_true, show tb 138 = tb_138 from rfl, tb_138, tb_138_0, tb_138_1, pfb, pfb_b, pfb_c, pfb_v, pfa_b, pfa_c, pfa_v, hs1.mr1, hs1.mr2, hs1.mr3, hs1.mr4, hs1.mr5, hs1.mr14, hs1.mr15, hs1.mr16, hs1.mr18, hs1.mr19, hs1.mr20, hs1.mr21, hs1.mr22, hs1.mr23, hs1.mk521, hs1.mk522, hs1.mn522, hs1.mk523, hs1.mn523, hs1.mk524, hs1.mn524, hs1.mk525, hs1.mn525, hs1.mk526, hs1.mn526, hs1.mk527, hs1.mn527, hs1.mk528, hs1.mn528, hs1.mk529, hs1.mn529, hs1.mk530, hs1.mn530, hs1.mk531, hs1.mn531, hs1.mk532, hs1.mn532, hs1.mk533, hs1.mn533, hs1.mk534, hs1.mn534, hs1.mk535, hs1.mn535, l1, hge]
        exact ⟨by omega, hF, rfl, fun _ => hT⟩
      | some t =>
        have hslt : s < L1.length := (List.getElem?_eq_some_iff.mp hs9).1
        have hge : ¬ (L1.length : Int) ≤ (s : Int) := by omega
        have okt := ok1 t (List.mem_of_getElem? hs9)
        obtain ⟨c1, c2, c3⟩ := tm_ok hT ok1 hs9
        rw [show ((7 : Nat) : Int) = 7 from rfl] at c1 c2 c3
        have hb1 : RBt M1 bs := ⟨(hF.2.1 10 (fun h => h)).trans hb.1, hb.2.1, fun j b hj => (hb.2.2 j b hj).fr hF (by have := (List.getElem?_eq_some_iff.mp hj).1; have := hb.2.1; omega) (by omega)⟩
        have hg1 : RBg M1 bs := fun j b hj => (hF.ne (by omega) (by omega) j).trans (hg j b hj)
        have o1 := (hF.2.1 0 (fun h => h)).trans ho
        refine G_w (pfb_ok X) LK_138 (fun i => i == 2) 30 _ _ _ _ ?_
        simp only [f_0, f_s, f_iconst, f_bipush, f_sipush, f_ldc, f_ldc_w, f_ldc2_w, f_ldI, f_ldL, f_ldA, f_iload, f_iload_n, f_lload, f_lload_n, f_aload, f_aload_n, f_istore, f_istore_n, f_lstore, f_lstore_n, f_astore, f_astore_n, f_iinc, f_icI, f_iadd, f_isub, f_imul, f_idiv, f_irem, f_iand, f_ior, f_ixor, f_ishl, f_ishr, f_iushr, f_i2l, f_i2b, f_i2s, f_ladd, f_lmul, f_lcmp, f_dupI, f_dupR, f_dup2, f_pop, f_goto, f_if, f_icmp, f_tab, f_ts0, f_ts1, f_getI, f_getZ, f_getR, f_putI, f_putR, f_gets, f_iald, f_bald, f_aald, f_iast, f_bast, f_aast, f_alen, f_new, f_newa, f_anew, f_virt, f_stat0, f_stat1, f_spec0, f_spec1, f_spec9, f_copy, f_max, f_min, f_cV1, f_cV0, f_cS1, f_cS0, f_iret, f_lret, f_vret, f_kG, pf0, cIg, inR, lget, lset, lset2, clr, entL, cnd, psh, catS, tsw, List.take_succ_cons, List.take_zero, List.drop_succ_cons, List.drop_zero, List.reverse_cons, List.reverse_nil, List.nil_append, List.cons_append, List.length_cons, List.length_nil, List.replicate_succ, List.replicate_zero, Nat.reduceAdd, Nat.reduceSub, Nat.reduceLeDiff, Nat.reduceLT, Nat.reduceEqDiff, Nat.reduceMul, Nat.zero_add, Nat.add_zero, Nat.le_refl, Nat.zero_le, Int.reduceEq, Int.reduceToNat, Int.toNat_natCast, Int.reduceNeg, Int.reduceAdd, Int.reduceSub, Int.reduceMul, Int.reduceLT, Int.reduceLE, Int.reduceDiv, Int.reduceMod, Bool.false_eq_true, ↓reduceIte, true_and, and_true, implies_true, forall_const, true_or, or_true, or_false, false_or, not_true_eq_false, not_false_eq_true, false_implies, Prod.mk.injEq, Fin.val_zero, Fin.val_one, Fin.isValue, Fin.reduceFinMk, Fin.val_two, mR_uI, mK_uI, mN_uI, mI_uR, mK_uR, mN_uR, mR_uC, mK_uC, mN_uC, Option.some.injEq, Sum.inl.injEq, Sum.inr.injEq, decide_true, decide_false, Bool.or_false, Bool.false_or, Bool.or_true, Bool.true_or, Nat.reduceBEq, beq_self_eq_true, show tb 138 = tb_138 from rfl, tb_138, tb_138_0, tb_138_1, pfb, pfb_b, pfb_c, pfb_v, pfa_b, pfa_c, pfa_v, hs1.mr1, hs1.mr2, hs1.mr3, hs1.mr4, hs1.mr5, hs1.mr14, hs1.mr15, hs1.mr16, hs1.mr18, hs1.mr19, hs1.mr20, hs1.mr21, hs1.mr22, hs1.mr23, hs1.mk521, hs1.mk522, hs1.mn522, hs1.mk523, hs1.mn523, hs1.mk524, hs1.mn524, hs1.mk525, hs1.mn525, hs1.mk526, hs1.mn526, hs1.mk527, hs1.mn527, hs1.mk528, hs1.mn528, hs1.mk529, hs1.mn529, hs1.mk530, hs1.mn530, hs1.mk531, hs1.mn531, hs1.mk532, hs1.mn532, hs1.mk533, hs1.mn533, hs1.mk534, hs1.mn534, hs1.mk535, hs1.mn535, hs1, l1, hge, c1, c2]
        refine ⟨by omega, by omega, ?_⟩
        refine Ev_mono (e_whose X M1 t.2 bs hs1 hb1 hg1 okb okt.2) (fun r M2 hr _ _ => ?_)
        obtain ⟨rfl, hM2⟩ := hr
        subst hM2
        have hct := hc t hs9
        rcases own_find t.2 bs 0 with ⟨w1, w2⟩ | ⟨j, b, w1, w2, w3⟩
        · have hn : nfF o bs (k + 1) s L1 = nfF o bs k (s + 1) L1 := by rw [nfF, hs9]; simp only [w2]
          rw [w1, hn]
          simp only [f_kG, psh, Nat.reduceAdd]
          refine G_w (pfb_ok X) LK_138 (fun i => i == 2) 30 _ _ _ _ ?_
          simp only [f_0, f_s, f_iconst, f_bipush, f_sipush, f_ldc, f_ldc_w, f_ldc2_w, f_ldI, f_ldL, f_ldA, f_iload, f_iload_n, f_lload, f_lload_n, f_aload, f_aload_n, f_istore, f_istore_n, f_lstore, f_lstore_n, f_astore, f_astore_n, f_iinc, f_icI, f_iadd, f_isub, f_imul, f_idiv, f_irem, f_iand, f_ior, f_ixor, f_ishl, f_ishr, f_iushr, f_i2l, f_i2b, f_i2s, f_ladd, f_lmul, f_lcmp, f_dupI, f_dupR, f_dup2, f_pop, f_goto, f_if, f_icmp, f_tab, f_ts0, f_ts1, f_getI, f_getZ, f_getR, f_putI, f_putR, f_gets, f_iald, f_bald, f_aald, f_iast, f_bast, f_aast, f_alen, f_new, f_newa, f_anew, f_virt, f_stat0, f_stat1, f_spec0, f_spec1, f_spec9, f_copy, f_max, f_min, f_cV1, f_cV0, f_cS1, f_cS0, f_iret, f_lret, f_vret, f_kG, pf0, cIg, inR, lget, lset, lset2, clr, entL, cnd, psh, catS, tsw, List.take_succ_cons, List.take_zero, List.drop_succ_cons, List.drop_zero, List.reverse_cons, List.reverse_nil, List.nil_append, List.cons_append, List.length_cons, List.length_nil, List.replicate_succ, List.replicate_zero, Nat.reduceAdd, Nat.reduceSub, Nat.reduceLeDiff, Nat.reduceLT, Nat.reduceEqDiff, Nat.reduceMul, Nat.zero_add, Nat.add_zero, Nat.le_refl, Nat.zero_le, Int.reduceEq, Int.reduceToNat, Int.toNat_natCast, Int.reduceNeg, Int.reduceAdd, Int.reduceSub, Int.reduceMul, Int.reduceLT, Int.reduceLE, Int.reduceDiv, Int.reduceMod, Bool.false_eq_true, ↓reduceIte, true_and, and_true, implies_true, forall_const, true_or, or_true, or_false, false_or, not_true_eq_false, not_false_eq_true, false_implies, Prod.mk.injEq, Fin.val_zero, Fin.val_one, Fin.isValue, Fin.reduceFinMk, Fin.val_two, mR_uI, mK_uI, mN_uI, mI_uR, mK_uR, mN_uR, mR_uC, mK_uC, mN_uC, Option.some.injEq, Sum.inl.injEq, Sum.inr.injEq, decide_true, decide_false, Bool.or_false, Bool.false_or, Bool.or_true, Bool.true_or, Nat.reduceBEq, beq_self_eq_true, show tb 138 = tb_138 from rfl, tb_138, tb_138_0, tb_138_1, pfb, pfb_b, pfb_c, pfb_v, pfa_b, pfa_c, pfa_v]
          refine ⟨by omega, ih (s + 1) L1 M2 _ _ (by omega) ok1 srt1 (fun u hu => ?_) hT hF⟩
          have hlt : rk o u.2 < rk o t.2 := by
            obtain ⟨e1, -⟩ := split_at hs9
            have h9 : srt o (L1.drop s) := List.Pairwise.sublist (List.drop_sublist s L1) srt1
            rw [e1] at h9
            have h8 : (L1.drop (s + 1))[0]? = some u := by rw [List.getElem?_drop]; exact hu
            exact (List.pairwise_cons.mp h9).1 u (List.mem_of_getElem? h8)
          have := cnt_lt (o := o) (r' := rk o u.2) (ok1 u (List.mem_of_getElem? hu)).2 hlt (Int.le_refl _)
          omega
        · obtain ⟨hbm, hin⟩ := own_in w3
          have hsb := hbs b hbm
          have prh := hd_ok hsb.1.1 hsb.1.2.1
          have hf := inC_pr prh okt.2 hin
          have hjl := (List.getElem?_eq_some_iff.mp w2).1
          have hl24 := hb.2.1
          have hTb := hb1.2.2 j b w2
          have hf2 := hf
          unfold isPr at hf2
          have hnj : ¬ (j : Int) = -1 := by omega
          rw [w1, Nat.zero_add]
          simp only [f_kG, psh, Nat.reduceAdd]
          refine G_w (pfb_ok X) LK_138 (fun i => i == 2) 30 _ _ _ _ ?_
          simp only [f_0, f_s, f_iconst, f_bipush, f_sipush, f_ldc, f_ldc_w, f_ldc2_w, f_ldI, f_ldL, f_ldA, f_iload, f_iload_n, f_lload, f_lload_n, f_aload, f_aload_n, f_istore, f_istore_n, f_lstore, f_lstore_n, f_astore, f_astore_n, f_iinc, f_icI, f_iadd, f_isub, f_imul, f_idiv, f_irem, f_iand, f_ior, f_ixor, f_ishl, f_ishr, f_iushr, f_i2l, f_i2b, f_i2s, f_ladd, f_lmul, f_lcmp, f_dupI, f_dupR, f_dup2, f_pop, f_goto, f_if, f_icmp, f_tab, f_ts0, f_ts1, f_getI, f_getZ, f_getR, f_putI, f_putR, f_gets, f_iald, f_bald, f_aald, f_iast, f_bast, f_aast, f_alen, f_new, f_newa, f_anew, f_virt, f_stat0, f_stat1, f_spec0, f_spec1, f_spec9, f_copy, f_max, f_min, f_cV1, f_cV0, f_cS1, f_cS0, f_iret, f_lret, f_vret, f_kG, pf0, cIg, inR, lget, lset, lset2, clr, entL, cnd, psh, catS, tsw, List.take_succ_cons, List.take_zero, List.drop_succ_cons, List.drop_zero, List.reverse_cons, List.reverse_nil, List.nil_append, List.cons_append, List.length_cons, List.length_nil, List.replicate_succ, List.replicate_zero, Nat.reduceAdd, Nat.reduceSub, Nat.reduceLeDiff, Nat.reduceLT, Nat.reduceEqDiff, Nat.reduceMul, Nat.zero_add, Nat.add_zero, Nat.le_refl, Nat.zero_le, Int.reduceEq, Int.reduceToNat, Int.toNat_natCast, Int.reduceNeg, Int.reduceAdd, Int.reduceSub, Int.reduceMul, Int.reduceLT, Int.reduceLE, Int.reduceDiv, Int.reduceMod, Bool.false_eq_true, ↓reduceIte, true_and, and_true, implies_true, forall_const, true_or, or_true, or_false, false_or, not_true_eq_false, not_false_eq_true, false_implies, Prod.mk.injEq, Fin.val_zero, Fin.val_one, Fin.isValue, Fin.reduceFinMk, Fin.val_two, mR_uI, mK_uI, mN_uI, mI_uR, mK_uR, mN_uR, mR_uC, mK_uC, mN_uC, Option.some.injEq, Sum.inl.injEq, Sum.inr.injEq, decide_true, decide_false, Bool.or_false, Bool.false_or, Bool.or_true, Bool.true_or, Nat.reduceBEq, beq_self_eq_true, show tb 138 = tb_138 from rfl, tb_138, tb_138_0, tb_138_1, pfb, pfb_b, pfb_c, pfb_v, pfa_b, pfa_c, pfa_v, hnj, hs1.mk521]
          refine Ev_mono (e_headOf2 X M2 j b.1 hs1 hTb hsb.1.1 hsb.1.2.1 (by omega)) (fun r M3 hr _ _ => ?_)
          obtain ⟨rfl, hM3⟩ := hr
          subst hM3
          simp only [f_kG, psh, Nat.reduceAdd]
          refine G_w (pfb_ok X) LK_138 (fun i => i == 2) 30 _ _ _ _ ?_
          simp only [f_0, f_s, f_iconst, f_bipush, f_sipush, f_ldc, f_ldc_w, f_ldc2_w, f_ldI, f_ldL, f_ldA, f_iload, f_iload_n, f_lload, f_lload_n, f_aload, f_aload_n, f_istore, f_istore_n, f_lstore, f_lstore_n, f_astore, f_astore_n, f_iinc, f_icI, f_iadd, f_isub, f_imul, f_idiv, f_irem, f_iand, f_ior, f_ixor, f_ishl, f_ishr, f_iushr, f_i2l, f_i2b, f_i2s, f_ladd, f_lmul, f_lcmp, f_dupI, f_dupR, f_dup2, f_pop, f_goto, f_if, f_icmp, f_tab, f_ts0, f_ts1, f_getI, f_getZ, f_getR, f_putI, f_putR, f_gets, f_iald, f_bald, f_aald, f_iast, f_bast, f_aast, f_alen, f_new, f_newa, f_anew, f_virt, f_stat0, f_stat1, f_spec0, f_spec1, f_spec9, f_copy, f_max, f_min, f_cV1, f_cV0, f_cS1, f_cS0, f_iret, f_lret, f_vret, f_kG, pf0, cIg, inR, lget, lset, lset2, clr, entL, cnd, psh, catS, tsw, List.take_succ_cons, List.take_zero, List.drop_succ_cons, List.drop_zero, List.reverse_cons, List.reverse_nil, List.nil_append, List.cons_append, List.length_cons, List.length_nil, List.replicate_succ, List.replicate_zero, Nat.reduceAdd, Nat.reduceSub, Nat.reduceLeDiff, Nat.reduceLT, Nat.reduceEqDiff, Nat.reduceMul, Nat.zero_add, Nat.add_zero, Nat.le_refl, Nat.zero_le, Int.reduceEq, Int.reduceToNat, Int.toNat_natCast, Int.reduceNeg, Int.reduceAdd, Int.reduceSub, Int.reduceMul, Int.reduceLT, Int.reduceLE, Int.reduceDiv, Int.reduceMod, Bool.false_eq_true, ↓reduceIte, true_and, and_true, implies_true, forall_const, true_or, or_true, or_false, false_or, not_true_eq_false, not_false_eq_true, false_implies, Prod.mk.injEq, Fin.val_zero, Fin.val_one, Fin.isValue, Fin.reduceFinMk, Fin.val_two, mR_uI, mK_uI, mN_uI, mI_uR, mK_uR, mN_uR, mR_uC, mK_uC, mN_uC, Option.some.injEq, Sum.inl.injEq, Sum.inr.injEq, decide_true, decide_false, Bool.or_false, Bool.false_or, Bool.or_true, Bool.true_or, Nat.reduceBEq, beq_self_eq_true, show tb 138 = tb_138 from rfl, tb_138, tb_138_0, tb_138_1, pfb, pfb_b, pfb_c, pfb_v, pfa_b, pfa_c, pfa_v, hs1, hs1.mk521, c1, c3]
          refine ⟨by omega, by omega, ?_⟩
          refine Ev_mono (e_takes X M3 j o t.1 (t.2 - hd b.1) L1 b.1 hs1 o1 ho2 (by omega) hT hTb ok1 hsb.1.1 hf okt.1) (fun r M4 hr _ _ => ?_)
          rw [mrg_take hsb srt1 hs9] at hr
          have hlt9 : (L1.take s ++ mrg o (31 - t.1) (t.2 - hd b.1) (L1.drop s) b.1).length = s + (mrg o (31 - t.1) (t.2 - hd b.1) (L1.drop s) b.1).length := by rw [List.length_append, List.length_take]; omega
          obtain ⟨hF4, ⟨rfl, x1, x2, x3⟩ | ⟨rfl, x1⟩⟩ := hr
          · have hn : nfF o bs (k + 1) s L1 = nfF o bs k s (L1.take s ++ mrg o (31 - t.1) (t.2 - hd b.1) (L1.drop s) b.1) := by rw [nfF, hs9]; simp only [w3]; rw [if_pos ⟨x1, by omega⟩]
            rw [hn]
            obtain ⟨g1, g2, g3⟩ := next_ok (bs := bs) hsb srt1 ok1 hs9 hf x1
            simp only [f_kG, psh, Nat.reduceAdd]
            refine G_w (pfb_ok X) LK_138 (fun i => i == 2) 30 _ _ _ _ ?_
            simp only [f_0, f_s, f_iconst, f_bipush, f_sipush, f_ldc, f_ldc_w, f_ldc2_w, f_ldI, f_ldL, f_ldA, f_iload, f_iload_n, f_lload, f_lload_n, f_aload, f_aload_n, f_istore, f_istore_n, f_lstore, f_lstore_n, f_astore, f_astore_n, f_iinc, f_icI, f_iadd, f_isub, f_imul, f_idiv, f_irem, f_iand, f_ior, f_ixor, f_ishl, f_ishr, f_iushr, f_i2l, f_i2b, f_i2s, f_ladd, f_lmul, f_lcmp, f_dupI, f_dupR, f_dup2, f_pop, f_goto, f_if, f_icmp, f_tab, f_ts0, f_ts1, f_getI, f_getZ, f_getR, f_putI, f_putR, f_gets, f_iald, f_bald, f_aald, f_iast, f_bast, f_aast, f_alen, f_new, f_newa, f_anew, f_virt, f_stat0, f_stat1, f_spec0, f_spec1, f_spec9, f_copy, f_max, f_min, f_cV1, f_cV0, f_cS1, f_cS0, f_iret, f_lret, f_vret, f_kG, pf0, cIg, inR, lget, lset, lset2, clr, entL, cnd, psh, catS, tsw, List.take_succ_cons, List.take_zero, List.drop_succ_cons, List.drop_zero, List.reverse_cons, List.reverse_nil, List.nil_append, List.cons_append, List.length_cons, List.length_nil, List.replicate_succ, List.replicate_zero, Nat.reduceAdd, Nat.reduceSub, Nat.reduceLeDiff, Nat.reduceLT, Nat.reduceEqDiff, Nat.reduceMul, Nat.zero_add, Nat.add_zero, Nat.le_refl, Nat.zero_le, Int.reduceEq, Int.reduceToNat, Int.toNat_natCast, Int.reduceNeg, Int.reduceAdd, Int.reduceSub, Int.reduceMul, Int.reduceLT, Int.reduceLE, Int.reduceDiv, Int.reduceMod, Bool.false_eq_true, ↓reduceIte, true_and, and_true, implies_true, forall_const, true_or, or_true, or_false, false_or, not_true_eq_false, not_false_eq_true, false_implies, Prod.mk.injEq, Fin.val_zero, Fin.val_one, Fin.isValue, Fin.reduceFinMk, Fin.val_two, mR_uI, mK_uI, mN_uI, mI_uR, mK_uR, mN_uR, mR_uC, mK_uC, mN_uC, Option.some.injEq, Sum.inl.injEq, Sum.inr.injEq, decide_true, decide_false, Bool.or_false, Bool.false_or, Bool.or_true, Bool.true_or, Nat.reduceBEq, beq_self_eq_true, show tb 138 = tb_138 from rfl, tb_138, tb_138_0, tb_138_1, pfb, pfb_b, pfb_c, pfb_v, pfa_b, pfa_c, pfa_v]
            refine ih s _ M4 _ _ (by omega) g1 g2 (fun u hu => ?_) x3 (hF.tr hF4)
            obtain ⟨q1, q2⟩ := g3 u hu
            have := cnt_lt (o := o) (r' := rk o u.2) q1 q2 (Int.le_refl _)
            omega
          · have hn : nfF o bs (k + 1) s L1 = (false, L1) := by
              rw [nfF, hs9]; simp only [w3]
              rw [if_neg]
              rintro ⟨y1, y2⟩
              rcases x1 with h | h
              · rw [y1] at h; cases h
              · omega
            rw [hn]
            simp only [f_kG, psh, Nat.reduceAdd]
            refine G_w (pfb_ok X) LK_138 (fun i => i == 2) 30 _ _ _ _ ?_
            simp only [f_0, f_s, f_iconst, f_bipush, f_sipush, f_ldc, f_ldc_w, f_ldc2_w, f_ldI, f_ldL, f_ldA, f_iload, f_iload_n, f_lload, f_lload_n, f_aload, f_aload_n, f_istore, f_istore_n, f_lstore, f_lstore_n, f_astore, f_astore_n, f_iinc, f_icI, f_iadd, f_isub, f_imul, f_idiv, f_irem, f_iand, f_ior, f_ixor, f_ishl, f_ishr, f_iushr, f_i2l, f_i2b, f_i2s, f_ladd, f_lmul, f_lcmp, f_dupI, f_dupR, f_dup2, f_pop, f_goto, f_if, f_icmp, f_tab, f_ts0, f_ts1, f_getI, f_getZ, f_getR, f_putI, f_putR, f_gets, f_iald, f_bald, f_aald, f_iast, f_bast, f_aast, f_alen, f_new, f_newa, f_anew, f_virt, f_stat0, f_stat1, f_spec0, f_spec1, f_spec9, f_copy, f_max, f_min, f_cV1, f_cV0, f_cS1, f_cS0, f_iret, f_lret, f_vret, f_kG, pf0, cIg, inR, lget, lset, lset2, clr, entL, cnd, psh, catS, tsw, List.take_succ_cons, List.take_zero, List.drop_succ_cons, List.drop_zero, List.reverse_cons, List.reverse_nil, List.nil_append, List.cons_append, List.length_cons, List.length_nil, List.replicate_succ, List.replicate_zero, Nat.reduceAdd, Nat.reduceSub, Nat.reduceLeDiff, Nat.reduceLT, Nat.reduceEqDiff, Nat.reduceMul, Nat.zero_add, Nat.add_zero, Nat.le_refl, Nat.zero_le, Int.reduceEq, Int.reduceToNat, Int.toNat_natCast, Int.reduceNeg, Int.reduceAdd, Int.reduceSub, Int.reduceMul, Int.reduceLT, Int.reduceLE, Int.reduceDiv, Int.reduceMod, Bool.false_eq_true, ↓reduceIte, true_and, and_true, implies_true, forall_const, true_or, or_true, or_false, false_or, not_true_eq_false, not_false_eq_true, false_implies, Prod.mk.injEq, Fin.val_zero, Fin.val_one, Fin.isValue, Fin.reduceFinMk, Fin.val_two, mR_uI, mK_uI, mN_uI, mI_uR, mK_uR, mN_uR, mR_uC, mK_uC, mN_uC, Option.some.injEq, Sum.inl.injEq, Sum.inr.injEq, decide_true, decide_false, Bool.or_false, Bool.false_or, Bool.or_true, Bool.true_or, Nat.reduceBEq, beq_self_eq_true, show tb 138 = tb_138 from rfl, tb_138, tb_138_0, tb_138_1, pfb, pfb_b, pfb_c, pfb_v, pfa_b, pfa_c, pfa_v]
            exact ⟨hF.tr hF4, rfl, fun h => by cases h⟩
  refine Ev_of mcd_138 mok_138 (by decide) rfl (Nat.le_of_ble_eq_true rfl) ?_
  rw [show yl 138 = 4 from rfl]
  refine G_w (pfb_ok X) LK_138 (fun i => i == 2) 10 _ _ _ _ ?_
  simp only [f_0, f_s, f_iconst, f_bipush, f_sipush, f_ldc, f_ldc_w, f_ldc2_w, f_ldI, f_ldL, f_ldA, f_iload, f_iload_n, f_lload, f_lload_n, f_aload, f_aload_n, f_istore, f_istore_n, f_lstore, f_lstore_n, f_astore, f_astore_n, f_iinc, f_icI, f_iadd, f_isub, f_imul, f_idiv, f_irem, f_iand, f_ior, f_ixor, f_ishl, f_ishr, f_iushr, f_i2l, f_i2b, f_i2s, f_ladd, f_lmul, f_lcmp, f_dupI, f_dupR, f_dup2, f_pop, f_goto, f_if, f_icmp, f_tab, f_ts0, f_ts1, f_getI, f_getZ, f_getR, f_putI, f_putR, f_gets, f_iald, f_bald, f_aald, f_iast, f_bast, f_aast, f_alen, f_new, f_newa, f_anew, f_virt, f_stat0, f_stat1, f_spec0, f_spec1, f_spec9, f_copy, f_max, f_min, f_cV1, f_cV0, f_cS1, f_cS0, f_iret, f_lret, f_vret, f_kG, pf0, cIg, inR, lget, lset, lset2, clr, entL, cnd, psh, catS, tsw, List.take_succ_cons, List.take_zero, List.drop_succ_cons, List.drop_zero, List.reverse_cons, List.reverse_nil, List.nil_append, List.cons_append, List.length_cons, List.length_nil, List.replicate_succ, List.replicate_zero, Nat.reduceAdd, Nat.reduceSub, Nat.reduceLeDiff, Nat.reduceLT, Nat.reduceEqDiff, Nat.reduceMul, Nat.zero_add, Nat.add_zero, Nat.le_refl, Nat.zero_le, Int.reduceEq, Int.reduceToNat, Int.toNat_natCast, Int.reduceNeg, Int.reduceAdd, Int.reduceSub, Int.reduceMul, Int.reduceLT, Int.reduceLE, Int.reduceDiv, Int.reduceMod, Bool.false_eq_true, ↓reduceIte, true_and, and_true, implies_true, forall_const, true_or, or_true, or_false, false_or, not_true_eq_false, not_false_eq_true, false_implies, Prod.mk.injEq, Fin.val_zero, Fin.val_one, Fin.isValue, Fin.reduceFinMk, Fin.val_two, mR_uI, mK_uI, mN_uI, mI_uR, mK_uR, mN_uR, mR_uC, mK_uC, mN_uC, Option.some.injEq, Sum.inl.injEq, Sum.inr.injEq, decide_true, decide_false, Bool.or_false, Bool.false_or, Bool.or_true, Bool.true_or, Nat.reduceBEq, beq_self_eq_true, show tb 138 = tb_138 from rfl, tb_138, tb_138_0, tb_138_1, pfb, pfb_b, pfb_c, pfb_v, pfa_b, pfa_c, pfa_v]
  exact loop 32768 0 L M none none (Nat.zero_le _) okL srtL (fun t ht => cnt_top (okL t (List.mem_of_getElem? ht)).2) hL (Fr.rf _ _ _ _)
