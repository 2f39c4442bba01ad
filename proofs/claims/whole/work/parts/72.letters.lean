/-! the reference reads: bytes, letters -/
def TB (M : Mem) (t : Nat) (B : List Int) : Prop := mI M 524 t = B.length ∧ (∀ j b, B[j]? = some b → mI M 525 (30 * t + j) = b) ∧ B.length ≤ 30 ∧ ∀ b ∈ B, 0 ≤ b ∧ b ≤ 255
theorem TB.fr {M M' : Mem} {t : Nat} {B : List Int} {P F C : Nat → Prop} (h : TB M t B) (hF : Fr M M' P F C) (h1 : ¬ C 524 ∧ ¬ C 525) : TB M' t B := ⟨(hF.ne (by omega) h1.1 t).trans h.1, fun j b hb => (hF.ne (by omega) h1.2 _).trans (h.2.1 j b hb), h.2.2⟩
set_option maxRecDepth 100000 in
set_option maxHeartbeats 4000000 in
theorem e_mbyteAt (X : CX) (M : Mem) (t k : Nat) (B : List Int) (hs : Shp M) (hB : TB M t B) (ht : t < 8) : Ev X y_m_byteAt (0, 0) [aR (some 521), aI t, aI k] M (fun r M' => r = some (aI (B.getD k (-1))) ∧ M' = M) := by
  obtain ⟨b1, b2, b3, b4⟩ := hB
  by_cases h : k < B.length
  · obtain ⟨u, hu⟩ : ∃ u, B[k]? = some u := ⟨_, List.getElem?_eq_getElem h⟩
    have v := b2 k u hu
    have hge : ¬ (B.length : Int) ≤ (k : Int) := by omega
    have e1 : ((30 : Int) * (t : Int) + (k : Int)).toNat = 30 * t + k := by omega
    rw [getD_at hu]
    refine Ev_of mcd_121 mok_121 (by decide) rfl (Nat.le_of_ble_eq_true rfl) ?_
    rw [show yl 121 = 3 from rfl]
    refine G_w (pfb_ok X) LK_121 (fun i => false) 20 _ _ _ _ ?_
    simp only [f_0, f_s, f_iconst, f_bipush, f_sipush, f_ldc, f_ldc_w, f_ldc2_w, f_ldI, f_ldL, f_ldA, f_iload, f_iload_n, f_lload, f_lload_n, f_aload, f_aload_n, f_istore, f_istore_n, f_lstore, f_lstore_n, f_astore, f_astore_n, f_iinc, f_icI, f_iadd, f_isub, f_imul, f_idiv, f_irem, f_iand, f_ior, f_ixor, f_ishl, f_ishr, f_iushr, f_i2l, f_i2b, f_i2s, f_ladd, f_lmul, f_lcmp, f_dupI, f_dupR, f_dup2, f_pop, f_goto, f_if, f_icmp, f_tab, f_ts0, f_ts1, f_getI, f_getZ, f_getR, f_putI, f_putR, f_gets, f_iald, f_bald, f_aald, f_iast, f_bast, f_aast, f_alen, f_new, f_newa, f_anew, f_virt, f_stat0, f_stat1, f_spec0, f_spec1, f_spec9, f_copy, f_max, f_min, f_cV1, f_cV0, f_cS1, f_cS0, f_iret, f_lret, f_vret, f_kG, pf0, cIg, inR, lget, lset, lset2, clr, entL, cnd, psh, catS, tsw, List.take_succ_cons, List.take_zero, List.drop_succ_cons, List.drop_zero, List.reverse_cons, List.reverse_nil, List.nil_append, List.cons_append, List.length_cons, List.length_nil, List.replicate_succ, List.replicate_zero, Nat.reduceAdd, Nat.reduceSub, Nat.reduceLeDiff, Nat.reduceLT, Nat.reduceEqDiff, Nat.reduceMul, Nat.zero_add, Nat.add_zero, Nat.le_refl, Nat.zero_le, Int.reduceEq, Int.reduceToNat, Int.toNat_natCast, Int.reduceNeg, Int.reduceAdd, Int.reduceSub, Int.reduceMul, Int.reduceLT, Int.reduceLE, Int.reduceDiv, Int.reduceMod, Bool.false_eq_true, ↓reduceIte, true_and, and_true, implies_true, forall_const, true_or, or_true, or_false, false_or, not_true_eq_false, not_false_eq_true, false_implies, Prod.mk.injEq, Fin.val_zero, Fin.val_one, Fin.isValue, Fin.reduceFinMk, Fin.val_two, mR_uI, mK_uI, mN_uI, mI_uR, mK_uR, mN_uR, mR_uC, mK_uC, mN_uC, Option.some.injEq, Sum.inl.injEq, Sum.inr.injEq, decide_true, decide_false, Bool.or_false, Bool.false_or, Bool.or_true, Bool.true_or, Nat.reduceBEq, beq_self_eq_true, show tb 121 = tb_121 from rfl, tb_121, tb_121_0, pfb, pfb_b, pfb_c, pfb_v, pfa_b, pfa_c, pfa_v, hs.mr1, hs.mr2, hs.mr3, hs.mr4, hs.mr5, hs.mr14, hs.mr15, hs.mr16, hs.mr18, hs.mr19, hs.mr20, hs.mr21, hs.mr22, hs.mr23, hs.mk521, hs.mk522, hs.mn522, hs.mk523, hs.mn523, hs.mk524, hs.mn524, hs.mk525, hs.mn525, hs.mk526, hs.mn526, hs.mk527, hs.mn527, hs.mk528, hs.mn528, hs.mk529, hs.mn529, hs.mk530, hs.mn530, hs.mk531, hs.mn531, hs.mk532, hs.mn532, hs.mk533, hs.mn533, hs.mk534, hs.mn534, hs.mk535, hs.mn535, b1, hge, e1, v]
    (repeat' (first | with_reducible apply And.intro | with_reducible intro _)) <;> (try omega)
  · have hge : (B.length : Int) ≤ (k : Int) := by omega
    have e : B.getD k (-1) = -1 := by rw [List.getD_eq_getElem?_getD, List.getElem?_eq_none (by omega)]; rfl
    rw [e]
    refine Ev_of mcd_121 mok_121 (by decide) rfl (Nat.le_of_ble_eq_true rfl) ?_
    rw [show yl 121 = 3 from rfl]
    refine G_w (pfb_ok X) LK_121 (fun i => false) 20 _ _ _ _ ?_
    simp only [f_0, f_s, f_iconst, f_bipush, f_sipush, f_ldc, f_ldc_w, f_ldc2_w, f_ldI, f_ldL, f_ldA, f_iload, f_iload_n, f_lload, f_lload_n, f_aload, f_aload_n, f_istore, f_istore_n, f_lstore, f_lstore_n, f_astore, f_astore_n, f_iinc, f_icI, f_iadd, f_isub, f_imul, f_idiv, f_irem, f_iand, f_ior, f_ixor, f_ishl, f_ishr, f_iushr, f_i2l, f_i2b, f_i2s, f_ladd, f_lmul, f_lcmp, f_dupI, f_dupR, f_dup2, f_pop, f_goto, f_if, f_icmp, f_tab, f_ts0, f_ts1, f_getI, f_getZ, f_getR, f_putI, f_putR, f_gets, f_iald, f_bald, f_aald, f_iast, f_bast, f_aast, f_alen, f_new, f_newa, f_anew, f_virt, f_stat0, f_stat1, f_spec0, f_spec1, f_spec9, f_copy, f_max, f_min, f_cV1, f_cV0, f_cS1, f_cS0, f_iret, f_lret, f_vret, f_kG, pf0, cIg, inR, lget, lset, lset2, clr, entL, cnd, psh, catS, tsw, List.take_succ_cons, List.take_zero, List.drop_succ_cons, List.drop_zero, List.reverse_cons, List.reverse_nil, List.nil_append, List.cons_append, List.length_cons, List.length_nil, List.replicate_succ, List.replicate_zero, Nat.reduceAdd, Nat.reduceSub, Nat.reduceLeDiff, Nat.reduceLT, Nat.reduceEqDiff, Nat.reduceMul, Nat.zero_add, Nat.add_zero, Nat.le_refl, Nat.zero_le, Int.reduceEq, Int.reduceToNat, Int.toNat_natCast, Int.reduceNeg, Int.reduceAdd, Int.reduceSub, Int.reduceMul, Int.reduceLT, Int.reduceLE, Int.reduceDiv, Int.reduceMod, Bool.false_eq_true, ↓reduceIte, true_and, and_true, implies_true, forall_const, true_or, or_true, or_false, false_or, not_true_eq_false, not_false_eq_true, false_implies, Prod.mk.injEq, Fin.val_zero, Fin.val_one, Fin.isValue, Fin.reduceFinMk, Fin.val_two, mR_uI, mK_uI, mN_uI, mI_uR, mK_uR, mN_uR, mR_uC, mK_uC, mN_uC, Option.some.injEq, Sum.inl.injEq, Sum.inr.injEq, decide_true, decide_false, Bool.or_false, Bool.false_or, Bool.or_true, Bool.true_or, Nat.reduceBEq, beq_self_eq_true, show tb 121 = tb_121 from rfl, tb_121, tb_121_0, pfb, pfb_b, pfb_c, pfb_v, pfa_b, pfa_c, pfa_v, hs.mr1, hs.mr2, hs.mr3, hs.mr4, hs.mr5, hs.mr14, hs.mr15, hs.mr16, hs.mr18, hs.mr19, hs.mr20, hs.mr21, hs.mr22, hs.mr23, hs.mk521, hs.mk522, hs.mn522, hs.mk523, hs.mn523, hs.mk524, hs.mn524, hs.mk525, hs.mn525, hs.mk526, hs.mn526, hs.mk527, hs.mn527, hs.mk528, hs.mn528, hs.mk529, hs.mn529, hs.mk530, hs.mn530, hs.mk531, hs.mn531, hs.mk532, hs.mn532, hs.mk533, hs.mn533, hs.mk534, hs.mn534, hs.mk535, hs.mn535, b1, hge]
    (repeat' (first | with_reducible apply And.intro | with_reducible intro _)) <;> (try omega)
def e15 (p : Int) : Prop := isPr p ∧ ex p 0 ≤ 15 ∧ ex p 1 ≤ 15 ∧ ex p 2 ≤ 15
theorem up_e15 {p l k : Int} (hp : e15 p) (hl : 0 ≤ l ∧ l ≤ 2) (hk : 0 ≤ k) (h : ex p l + k ≤ 15) : e15 (p + k * lpI l) ∧ ex (p + k * lpI l) l = ex p l + k := by
  obtain ⟨h1, h2, h3, h4⟩ := hp
  have hpr := up_pr h1 hl hk h
  have d := pr_dec h1
  have d2 := pr_dec hpr
  have a0 := ex_b p 0; have a1 := ex_b p 1; have a2 := ex_b p 2
  have b0 := ex_b (p + k * lpI l) 0; have b1 := ex_b (p + k * lpI l) 1; have b2 := ex_b (p + k * lpI l) 2
  rcases (show l = 0 ∨ l = 1 ∨ l = 2 by omega) with rfl | rfl | rfl
  · rw [show lpI 0 = 1024 from rfl] at hpr d2 b0 b1 b2 ⊢
    have w0 : ex (p + k * 1024) 0 = ex p 0 + k := by omega
    have w1 : ex (p + k * 1024) 1 = ex p 1 + 0 := by omega
    have w2 : ex (p + k * 1024) 2 = ex p 2 + 0 := by omega
    exact ⟨⟨hpr, by omega, by omega, by omega⟩, by omega⟩
  · rw [show lpI 1 = 32 from rfl] at hpr d2 b0 b1 b2 ⊢
    have w0 : ex (p + k * 32) 0 = ex p 0 + 0 := by omega
    have w1 : ex (p + k * 32) 1 = ex p 1 + k := by omega
    have w2 : ex (p + k * 32) 2 = ex p 2 + 0 := by omega
    exact ⟨⟨hpr, by omega, by omega, by omega⟩, by omega⟩
  · rw [show lpI 2 = 1 from rfl] at hpr d2 b0 b1 b2 ⊢
    have w0 : ex (p + k * 1) 0 = ex p 0 + 0 := by omega
    have w1 : ex (p + k * 1) 1 = ex p 1 + 0 := by omega
    have w2 : ex (p + k * 1) 2 = ex p 2 + k := by omega
    exact ⟨⟨hpr, by omega, by omega, by omega⟩, by omega⟩
/-- letters with their figures: whether all is well, where it is then, the product -/
def ltR : Nat → List Int → Nat → Int → Bool × Nat × Int
  | 0, _, i, p => (true, i, p)
  | _ + 1, [], i, p => (true, i, p)
  | k + 1, b :: R1, i, p => if 120 ≤ b ∧ b ≤ 122 then (if ex p (b - 120) + 1 ≤ 15 then (match R1 with
      | [] => (true, i + 1, p + 1 * lpI (b - 120))
      | c :: R2 => if 50 ≤ c ∧ c ≤ 57 then (if ex (p + 1 * lpI (b - 120)) (b - 120) + (c - 49) ≤ 15 then ltR k R2 (i + 2) (p + 1 * lpI (b - 120) + (c - 49) * lpI (b - 120)) else (false, i + 1, p + 1 * lpI (b - 120))) else ltR k (c :: R2) (i + 1) (p + 1 * lpI (b - 120))) else (false, i, p)) else (true, i, p)
theorem ltR_cons (k : Nat) (b : Int) (R1 : List Int) (i : Nat) (p : Int) : ltR (k + 1) (b :: R1) i p = if 120 ≤ b ∧ b ≤ 122 then (if ex p (b - 120) + 1 ≤ 15 then (match R1 with
      | [] => (true, i + 1, p + 1 * lpI (b - 120))
      | c :: R2 => if 50 ≤ c ∧ c ≤ 57 then (if ex (p + 1 * lpI (b - 120)) (b - 120) + (c - 49) ≤ 15 then ltR k R2 (i + 2) (p + 1 * lpI (b - 120) + (c - 49) * lpI (b - 120)) else (false, i + 1, p + 1 * lpI (b - 120))) else ltR k (c :: R2) (i + 1) (p + 1 * lpI (b - 120))) else (false, i, p)) else (true, i, p) := by
  cases R1 <;> rfl
theorem nx_letter {b : Int} {s : RS} (hb : 120 ≤ b ∧ b ≤ 122) : nxR b s = upR (3, s.2.1, s.2.2.1, s.2.2.2.1, b - 120) 1 := by
  unfold nxR
  rw [if_neg (by omega), if_neg (by omega), if_pos hb]
theorem nx_power {c : Int} {s : RS} (hc : 50 ≤ c ∧ c ≤ 57) (h3 : s.1 = 3) : nxR c s = upR (4, s.2) (c - 49) := by
  unfold nxR
  rw [if_neg (by omega), if_pos (by omega), if_neg (by omega), if_pos ⟨h3, by omega⟩]
def noPow (R : List Int) : Prop := ∀ c R2, R = c :: R2 → ¬ (50 ≤ c ∧ c ≤ 57)
def noLet (R : List Int) : Prop := ∀ c R2, R = c :: R2 → ¬ (120 ≤ c ∧ c ≤ 122)
/-- the letters, as the class reads them -/
theorem lt_rd (o : Int) : ∀ (k : Nat) (R : List Int) (i : Nat) (st neg num p l : Int) (L : Po), R.length ≤ k → okR (st, neg, num, p, l) → e15 p → (st = 3 → noPow R) → ((ltR k R i p).1 = false → rdL o R i (st, neg, num, p, l) L = (((ltR k R i p).2.1 : Int), [])) ∧ ((ltR k R i p).1 = true → ∃ n st' l', (ltR k R i p).2.1 = i + n ∧ n ≤ R.length ∧ rdL o R i (st, neg, num, p, l) L = rdL o (R.drop n) (i + n) (st', neg, num, (ltR k R i p).2.2, l') L ∧ (n = 0 → st' = st) ∧ (0 < n → st' = 3 ∨ st' = 4) ∧ okR (st', neg, num, (ltR k R i p).2.2, l') ∧ (st' = 3 → noPow (R.drop n)) ∧ noLet (R.drop n))
  | 0, R, i, st, neg, num, p, l, L, hR, ok, he, hn => by
    have hR0 : R = [] := List.length_eq_zero_iff.mp (by omega)
    subst hR0
    rw [ltR]
    exact ⟨fun h => by simp at h, fun _ => ⟨0, st, l, rfl, Nat.le_refl _, rfl, fun _ => rfl, fun h => absurd h (by omega), ok, hn, fun c R2 h => by cases h⟩⟩
  | k + 1, [], i, st, neg, num, p, l, L, hR, ok, he, hn => by
    rw [ltR]
    exact ⟨fun h => by simp at h, fun _ => ⟨0, st, l, rfl, Nat.le_refl _, rfl, fun _ => rfl, fun h => absurd h (by omega), ok, hn, fun c R2 h => by cases h⟩⟩
  | k + 1, b :: R1, i, st, neg, num, p, l, L, hR, ok, he, hn => by
    rw [ltR_cons]
    by_cases hb : 120 ≤ b ∧ b ≤ 122
    · rw [if_pos hb]
      have hl : 0 ≤ b - 120 ∧ b - 120 ≤ 2 := by omega
      have hnx := nx_letter (s := (st, neg, num, p, l)) hb
      by_cases h15 : ex p (b - 120) + 1 ≤ 15
      · rw [if_pos h15]
        obtain ⟨u1, u2⟩ := up_e15 he hl (by omega) h15
        have hup : nxR b (st, neg, num, p, l) = some (3, neg, num, p + 1 * lpI (b - 120), b - 120) := by rw [hnx]; unfold upR; rw [if_pos h15]
        have hrd : ∀ R1', rdL o (b :: R1') i (st, neg, num, p, l) L = rdL o R1' (i + 1) (3, neg, num, p + 1 * lpI (b - 120), b - 120) L := fun R1' => by rw [rdL, hup]; simp only; rw [if_neg (by omega)]
        have ok3 : okR (3, neg, num, p + 1 * lpI (b - 120), b - 120) := ⟨by simp, ok.2.1, ok.2.2.1, u1.1, fun _ => hl⟩
        cases R1 with
        | nil =>
          simp only
          refine ⟨fun h => by simp at h, fun _ => ⟨1, 3, b - 120, rfl, Nat.le_refl _, ?_, fun h => absurd h (by omega), fun _ => Or.inl rfl, ok3, fun _ c R2 h => by (cases h), fun c R2 h => by (cases h)⟩⟩
          rw [hrd]; rfl
        | cons c R2 =>
          simp only
          by_cases hc : 50 ≤ c ∧ c ≤ 57
          · rw [if_pos hc]
            have hnx2 := nx_power (s := (3, neg, num, p + 1 * lpI (b - 120), b - 120)) hc rfl
            by_cases h16 : ex (p + 1 * lpI (b - 120)) (b - 120) + (c - 49) ≤ 15
            · rw [if_pos h16]
              obtain ⟨v1, v2⟩ := up_e15 u1 hl (show 0 ≤ c - 49 by omega) h16
              have hup2 : nxR c (3, neg, num, p + 1 * lpI (b - 120), b - 120) = some (4, neg, num, p + 1 * lpI (b - 120) + (c - 49) * lpI (b - 120), b - 120) := by rw [hnx2]; unfold upR; rw [if_pos h16]
              have hrd2 : rdL o (b :: c :: R2) i (st, neg, num, p, l) L = rdL o R2 (i + 2) (4, neg, num, p + 1 * lpI (b - 120) + (c - 49) * lpI (b - 120), b - 120) L := by rw [hrd, rdL, hup2]; simp only; rw [if_neg (by omega)]
              have ok4 : okR (4, neg, num, p + 1 * lpI (b - 120) + (c - 49) * lpI (b - 120), b - 120) := ⟨by simp, ok.2.1, ok.2.2.1, v1.1, fun _ => hl⟩
              obtain ⟨g1, g2⟩ := lt_rd o k R2 (i + 2) 4 neg num (p + 1 * lpI (b - 120) + (c - 49) * lpI (b - 120)) (b - 120) L (by simp only [List.length_cons] at hR; omega) ok4 v1 (fun h => by omega)
              refine ⟨fun h => by rw [hrd2]; exact g1 h, fun h => ?_⟩
              obtain ⟨n, st', l', q1, q2, q3, q4, q5, q6, q7, q8⟩ := g2 h
              refine ⟨n + 2, st', l', by rw [q1]; omega, by simp only [List.length_cons]; omega, by rw [hrd2, q3, show i + 2 + n = i + (n + 2) by omega]; rfl, fun h => absurd h (by omega), fun _ => ?_, q6, q7, q8⟩
              by_cases hn0 : n = 0
              · right; exact q4 hn0
              · exact q5 (by omega)
            · rw [if_neg h16]
              refine ⟨fun _ => ?_, fun h => by simp at h⟩
              have hup2 : nxR c (3, neg, num, p + 1 * lpI (b - 120), b - 120) = none := by rw [hnx2]; unfold upR; rw [if_neg h16]
              rw [hrd, rdL, hup2]
          · rw [if_neg hc]
            obtain ⟨g1, g2⟩ := lt_rd o k (c :: R2) (i + 1) 3 neg num (p + 1 * lpI (b - 120)) (b - 120) L (by simp only [List.length_cons] at hR ⊢; omega) ok3 u1 (fun _ d R3 h => by cases h; exact hc)
            refine ⟨fun h => by rw [hrd]; exact g1 h, fun h => ?_⟩
            obtain ⟨n, st', l', q1, q2, q3, q4, q5, q6, q7, q8⟩ := g2 h
            refine ⟨n + 1, st', l', by rw [q1]; omega, by simp only [List.length_cons] at q2 ⊢; omega, by rw [hrd, q3, show i + 1 + n = i + (n + 1) by omega]; rfl, fun h => absurd h (by omega), fun _ => ?_, q6, q7, q8⟩
            by_cases hn0 : n = 0
            · left; exact q4 hn0
            · exact q5 (by omega)
      · rw [if_neg h15]
        refine ⟨fun _ => ?_, fun h => by simp at h⟩
        have hup : nxR b (st, neg, num, p, l) = none := by rw [hnx]; unfold upR; rw [if_neg h15]
        rw [rdL, hup]
    · rw [if_neg hb]
      exact ⟨fun h => by simp at h, fun _ => ⟨0, st, l, rfl, Nat.zero_le _, rfl, fun _ => rfl, fun h => absurd h (by omega), ok, hn, fun c R2 h => by cases h; exact hb⟩⟩
/-- how the letters are read -/
def LE (M : Mem) (res : Bool × Nat × Int) (r : Option AV) (M' : Mem) : Prop := r = some (aI (if res.1 = true then 1 else 0)) ∧ Fr M M' NN (fun k => k = 8 ∨ k = 9) NN ∧ mI M' 521 8 = res.2.1 ∧ mI M' 521 9 = res.2.2
theorem gd_drop {B R : List Int} {i : Nat} {b : Int} (h : B.drop i = b :: R) : B.getD i (-1) = b := getD_at (drop_cons h).1
theorem gd_nil {B : List Int} {i : Nat} (h : B.drop i = []) : B.getD i (-1) = -1 := by
  have : B.length ≤ i := List.drop_eq_nil_iff.mp h
  rw [List.getD_eq_getElem?_getD, List.getElem?_eq_none (by omega)]; rfl
theorem lp_of (l : Int) : (if l = 0 then (1024 : Int) else if l = 1 then 32 else 1) = lpI l := rfl
set_option maxRecDepth 100000 in
set_option maxHeartbeats 4000000 in
theorem e_readsLetters (X : CX) (M : Mem) (t i : Nat) (B : List Int) (hs : Shp M) (hB : TB M t B) (ht : t < 8) (hi : i ≤ 31) (hat : mI M 521 8 = i) : Ev X y_m_readsLetters (0, 0) [aR (some 521), aI t] M (LE M (ltR 31 (B.drop i) i 0)) := by
  have loop : ∀ (k i : Nat) (p : Int) (M1 : Mem) (v2 v3 : Option AV), (B.drop i).length ≤ k → i ≤ 31 → e15 p → mI M1 521 8 = i → mI M1 521 9 = p → Fr M M1 NN (fun k => k = 8 ∨ k = 9) NN → G X y_m_readsLetters (mZ M, mS M, 0, 0) 3 [some (aR (some 521)), some (aI t), v2, v3] [] M1 (LE M (ltR k (B.drop i) i p)) := by
    intro k
    induction k with
    | zero =>
      intro i p M1 v2 v3 hk hi he h8 h9 hF
      have hnil : B.drop i = [] := List.length_eq_zero_iff.mp (by omega)
      have hs1 := hF.shp hs
      refine G_w (pfb_ok X) LK_125 (fun i => i == 3) 20 _ _ _ _ ?_
      simp only [f_0, f_s, f_iconst, f_bipush, f_sipush, f_ldc, f_ldc_w, f_ldc2_w, f_ldI, f_ldL, f_ldA, f_iload, f_iload_n, f_lload, f_lload_n, f_aload, f_aload_n, f_istore, f_istore_n, f_lstore, f_lstore_n, f_astore, f_astore_n, f_iinc, f_icI, f_iadd, f_isub, f_imul, f_idiv, f_irem, f_iand, f_ior, f_ixor, f_ishl, f_ishr, f_iushr, f_i2l, f_i2b, f_i2s, f_ladd, f_lmul, f_lcmp, f_dupI, f_dupR, f_dup2, f_pop, f_goto, f_if, f_icmp, f_tab, f_ts0, f_ts1, f_getI, f_getZ, f_getR, f_putI, f_putR, f_gets, f_iald, f_bald, f_aald, f_iast, f_bast, f_aast, f_alen, f_new, f_newa, f_anew, f_virt, f_stat0, f_stat1, f_spec0, f_spec1, f_spec9, f_copy, f_max, f_min, f_cV1, f_cV0, f_cS1, f_cS0, f_iret, f_lret, f_vret, f_kG, pf0, cIg, inR, lget, lset, lset2, clr, entL, cnd, psh, catS, tsw, List.take_succ_cons, List.take_zero, List.drop_succ_cons, List.drop_zero, List.reverse_cons, List.reverse_nil, List.nil_append, List.cons_append, List.length_cons, List.length_nil, List.replicate_succ, List.replicate_zero, Nat.reduceAdd, Nat.reduceSub, Nat.reduceLeDiff, Nat.reduceLT, Nat.reduceEqDiff, Nat.reduceMul, Nat.zero_add, Nat.add_zero, Nat.le_refl, Nat.zero_le, Int.reduceEq, Int.reduceToNat, Int.toNat_natCast, Int.reduceNeg, Int.reduceAdd, Int.reduceSub, Int.reduceMul, Int.reduceLT, Int.reduceLE, Int.reduceDiv, Int.reduceMod, Bool.false_eq_true, ↓reduceIte, true_and, and_true, implies_true, forall_const, true_or, or_true, or_false, false_or, not_true_eq_false, not_false_eq_true, false_implies, Prod.mk.injEq, Fin.val_zero, Fin.val_one, Fin.isValue, Fin.reduceFinMk, Fin.val_two, mR_uI, mK_uI, mN_uI, mI_uR, mK_uR, mN_uR, mR_uC, mK_uC, mN_uC, Option.some.injEq, Sum.inl.injEq, Sum.inr.injEq, decide_true, decide_false, Bool.or_false, Bool.false_or, Bool.or_true, Bool.true_or, Nat.reduceBEq, beq_self_eq_true, show tb 125 = tb_125 from rfl, tb_125, tb_125_0, tb_125_1, tb_125_2, pfb, pfb_b, pfb_c, pfb_v, pfa_b, pfa_c, pfa_v, hs1.mk521, h8]
      refine Ev_mono (e_mbyteAt X M1 t i B hs1 (hB.fr hF ⟨fun h => h, fun h => h⟩) ht) (fun r M2 hr _ _ => ?_)
      obtain ⟨rfl, hM2⟩ := hr
      subst hM2
      rw [gd_nil hnil]
      have hif : (if (120 : Int) ≤ -1 ∧ (-1 : Int) ≤ 122 then (1 : Int) else 0) = 0 := if_neg (by omega)
      simp only [f_kG, psh, Nat.reduceAdd]
      refine G_w (pfb_ok X) LK_125 (fun i => i == 3) 20 _ _ _ _ ?_
      simp only [f_0, f_s, f_iconst, f_bipush, f_sipush, f_ldc, f_ldc_w, f_ldc2_w, f_ldI, f_ldL, f_ldA, f_iload, f_iload_n, f_lload, f_lload_n, f_aload, f_aload_n, f_istore, f_istore_n, f_lstore, f_lstore_n, f_astore, f_astore_n, f_iinc, f_icI, f_iadd, f_isub, f_imul, f_idiv, f_irem, f_iand, f_ior, f_ixor, f_ishl, f_ishr, f_iushr, f_i2l, f_i2b, f_i2s, f_ladd, f_lmul, f_lcmp, f_dupI, f_dupR, f_dup2, f_pop, f_goto, f_if, f_icmp, f_tab, f_ts0, f_ts1, f_getI, f_getZ, f_getR, f_putI, f_putR, f_gets, f_iald, f_bald, f_aald, f_iast, f_bast, f_aast, f_alen, f_new, f_newa, f_anew, f_virt, f_stat0, f_stat1, f_spec0, f_spec1, f_spec9, f_copy, f_max, f_min, f_cV1, f_cV0, f_cS1, f_cS0, f_iret, f_lret, f_vret, f_kG, pf0, cIg, inR, lget, lset, lset2, clr, entL, cnd, psh, catS, tsw, List.take_succ_cons, List.take_zero, List.drop_succ_cons, List.drop_zero, List.reverse_cons, List.reverse_nil, List.nil_append, List.cons_append, List.length_cons, List.length_nil, List.replicate_succ, List.replicate_zero, Nat.reduceAdd, Nat.reduceSub, Nat.reduceLeDiff, Nat.reduceLT, Nat.reduceEqDiff, Nat.reduceMul, Nat.zero_add, Nat.add_zero, Nat.le_refl, Nat.zero_le, Int.reduceEq, Int.reduceToNat, Int.toNat_natCast, Int.reduceNeg, Int.reduceAdd, Int.reduceSub, Int.reduceMul, Int.reduceLT, Int.reduceLE, Int.reduceDiv, Int.reduceMod, Bool.false_eq_true, ↓reduceIte, true_and, and_true, implies_true, forall_const, true_or, or_true, or_false, false_or, not_true_eq_false, not_false_eq_true, false_implies, Prod.mk.injEq, Fin.val_zero, Fin.val_one, Fin.isValue, Fin.reduceFinMk, Fin.val_two, mR_uI, mK_uI, mN_uI, mI_uR, mK_uR, mN_uR, mR_uC, mK_uC, mN_uC, Option.some.injEq, Sum.inl.injEq, Sum.inr.injEq, decide_true, decide_false, Bool.or_false, Bool.false_or, Bool.or_true, Bool.true_or, Nat.reduceBEq, beq_self_eq_true, show tb 125 = tb_125 from rfl, tb_125, tb_125_0, tb_125_1, tb_125_2, pfb, pfb_b, pfb_c, pfb_v, pfa_b, pfa_c, pfa_v, hif]
      exact ⟨rfl, hF, h8, h9⟩
    | succ k ih =>
      intro i p M1 v2 v3 hk hi he h8 h9 hF
      have hs1 := hF.shp hs
      have hB1 := hB.fr hF ⟨fun h => h, fun h => h⟩
      have hB30 := hB.2.2.1
      refine G_w (pfb_ok X) LK_125 (fun i => i == 3) 20 _ _ _ _ ?_
      simp only [f_0, f_s, f_iconst, f_bipush, f_sipush, f_ldc, f_ldc_w, f_ldc2_w, f_ldI, f_ldL, f_ldA, f_iload, f_iload_n, f_lload, f_lload_n, f_aload, f_aload_n, f_istore, f_istore_n, f_lstore, f_lstore_n, f_astore, f_astore_n, f_iinc, f_icI, f_iadd, f_isub, f_imul, f_idiv, f_irem, f_iand, f_ior, f_ixor, f_ishl, f_ishr, f_iushr, f_i2l, f_i2b, f_i2s, f_ladd, f_lmul, f_lcmp, f_dupI, f_dupR, f_dup2, f_pop, f_goto, f_if, f_icmp, f_tab, f_ts0, f_ts1, f_getI, f_getZ, f_getR, f_putI, f_putR, f_gets, f_iald, f_bald, f_aald, f_iast, f_bast, f_aast, f_alen, f_new, f_newa, f_anew, f_virt, f_stat0, f_stat1, f_spec0, f_spec1, f_spec9, f_copy, f_max, f_min, f_cV1, f_cV0, f_cS1, f_cS0, f_iret, f_lret, f_vret, f_kG, pf0, cIg, inR, lget, lset, lset2, clr, entL, cnd, psh, catS, tsw, List.take_succ_cons, List.take_zero, List.drop_succ_cons, List.drop_zero, List.reverse_cons, List.reverse_nil, List.nil_append, List.cons_append, List.length_cons, List.length_nil, List.replicate_succ, List.replicate_zero, Nat.reduceAdd, Nat.reduceSub, Nat.reduceLeDiff, Nat.reduceLT, Nat.reduceEqDiff, Nat.reduceMul, Nat.zero_add, Nat.add_zero, Nat.le_refl, Nat.zero_le, Int.reduceEq, Int.reduceToNat, Int.toNat_natCast, Int.reduceNeg, Int.reduceAdd, Int.reduceSub, Int.reduceMul, Int.reduceLT, Int.reduceLE, Int.reduceDiv, Int.reduceMod, Bool.false_eq_true, ↓reduceIte, true_and, and_true, implies_true, forall_const, true_or, or_true, or_false, false_or, not_true_eq_false, not_false_eq_true, false_implies, Prod.mk.injEq, Fin.val_zero, Fin.val_one, Fin.isValue, Fin.reduceFinMk, Fin.val_two, mR_uI, mK_uI, mN_uI, mI_uR, mK_uR, mN_uR, mR_uC, mK_uC, mN_uC, Option.some.injEq, Sum.inl.injEq, Sum.inr.injEq, decide_true, decide_false, Bool.or_false, Bool.false_or, Bool.or_true, Bool.true_or, Nat.reduceBEq, beq_self_eq_true, show tb 125 = tb_125 from rfl, tb_125, tb_125_0, tb_125_1, tb_125_2, pfb, pfb_b, pfb_c, pfb_v, pfa_b, pfa_c, pfa_v, hs1.mk521, h8]
      refine Ev_mono (e_mbyteAt X M1 t i B hs1 hB1 ht) (fun r M2 hr _ _ => ?_)
      obtain ⟨rfl, hM2⟩ := hr
      subst hM2
      cases hd : B.drop i with
      | nil =>
        rw [gd_nil hd, ltR]
        have hif : (if (120 : Int) ≤ -1 ∧ (-1 : Int) ≤ 122 then (1 : Int) else 0) = 0 := if_neg (by omega)
        simp only [f_kG, psh, Nat.reduceAdd]
        refine G_w (pfb_ok X) LK_125 (fun i => i == 3) 20 _ _ _ _ ?_
        simp only [f_0, f_s, f_iconst, f_bipush, f_sipush, f_ldc, f_ldc_w, f_ldc2_w, f_ldI, f_ldL, f_ldA, f_iload, f_iload_n, f_lload, f_lload_n, f_aload, f_aload_n, f_istore, f_istore_n, f_lstore, f_lstore_n, f_astore, f_astore_n, f_iinc, f_icI, f_iadd, f_isub, f_imul, f_idiv, f_irem, f_iand, f_ior, f_ixor, f_ishl, f_ishr, f_iushr, f_i2l, f_i2b, f_i2s, f_ladd, f_lmul, f_lcmp, f_dupI, f_dupR, f_dup2, f_pop, f_goto, f_if, f_icmp, f_tab, f_ts0, f_ts1, f_getI, f_getZ, f_getR, f_putI, f_putR, f_gets, f_iald, f_bald, f_aald, f_iast, f_bast, f_aast, f_alen, f_new, f_newa, f_anew, f_virt, f_stat0, f_stat1, f_spec0, f_spec1, f_spec9, f_copy, f_max, f_min, f_cV1, f_cV0, f_cS1, f_cS0, f_iret, f_lret, f_vret, f_kG, pf0, cIg, inR, lget, lset, lset2, clr, entL, cnd, psh, catS, tsw, List.take_succ_cons, List.take_zero, List.drop_succ_cons, List.drop_zero, List.reverse_cons, List.reverse_nil, List.nil_append, List.cons_append, List.length_cons, List.length_nil, List.replicate_succ, List.replicate_zero, Nat.reduceAdd, Nat.reduceSub, Nat.reduceLeDiff, Nat.reduceLT, Nat.reduceEqDiff, Nat.reduceMul, Nat.zero_add, Nat.add_zero, Nat.le_refl, Nat.zero_le, Int.reduceEq, Int.reduceToNat, Int.toNat_natCast, Int.reduceNeg, Int.reduceAdd, Int.reduceSub, Int.reduceMul, Int.reduceLT, Int.reduceLE, Int.reduceDiv, Int.reduceMod, Bool.false_eq_true, ↓reduceIte, true_and, and_true, implies_true, forall_const, true_or, or_true, or_false, false_or, not_true_eq_false, not_false_eq_true, false_implies, Prod.mk.injEq, Fin.val_zero, Fin.val_one, Fin.isValue, Fin.reduceFinMk, Fin.val_two, mR_uI, mK_uI, mN_uI, mI_uR, mK_uR, mN_uR, mR_uC, mK_uC, mN_uC, Option.some.injEq, Sum.inl.injEq, Sum.inr.injEq, decide_true, decide_false, Bool.or_false, Bool.false_or, Bool.or_true, Bool.true_or, Nat.reduceBEq, beq_self_eq_true, show tb 125 = tb_125 from rfl, tb_125, tb_125_0, tb_125_1, tb_125_2, pfb, pfb_b, pfb_c, pfb_v, pfa_b, pfa_c, pfa_v, hif]
        exact ⟨rfl, hF, h8, h9⟩
      | cons b R1 =>
        obtain ⟨d1, d2, d3⟩ := drop_cons hd
        rw [hd, List.length_cons] at hk
        have hbb := hB.2.2.2 b (List.mem_of_getElem? d1)
        rw [gd_drop hd, ltR_cons]
        by_cases hb : 120 ≤ b ∧ b ≤ 122
        · have hif : (if (120 : Int) ≤ b ∧ b ≤ 122 then (1 : Int) else 0) = 1 := if_pos hb
          rw [if_pos hb]
          simp only [f_kG, psh, Nat.reduceAdd]
          refine G_w (pfb_ok X) LK_125 (fun i => i == 3) 20 _ _ _ _ ?_
          simp only [f_0, f_s, f_iconst, f_bipush, f_sipush, f_ldc, f_ldc_w, f_ldc2_w, f_ldI, f_ldL, f_ldA, f_iload, f_iload_n, f_lload, f_lload_n, f_aload, f_aload_n, f_istore, f_istore_n, f_lstore, f_lstore_n, f_astore, f_astore_n, f_iinc, f_icI, f_iadd, f_isub, f_imul, f_idiv, f_irem, f_iand, f_ior, f_ixor, f_ishl, f_ishr, f_iushr, f_i2l, f_i2b, f_i2s, f_ladd, f_lmul, f_lcmp, f_dupI, f_dupR, f_dup2, f_pop, f_goto, f_if, f_icmp, f_tab, f_ts0, f_ts1, f_getI, f_getZ, f_getR, f_putI, f_putR, f_gets, f_iald, f_bald, f_aald, f_iast, f_bast, f_aast, f_alen, f_new, f_newa, f_anew, f_virt, f_stat0, f_stat1, f_spec0, f_spec1, f_spec9, f_copy, f_max, f_min, f_cV1, f_cV0, f_cS1, f_cS0, f_iret, f_lret, f_vret, f_kG, pf0, cIg, inR, lget, lset, lset2, clr, entL, cnd, psh, catS, tsw, List.take_succ_cons, List.take_zero, List.drop_succ_cons, List.drop_zero, List.reverse_cons, List.reverse_nil, List.nil_append, List.cons_append, List.length_cons, List.length_nil, List.replicate_succ, List.replicate_zero, Nat.reduceAdd, Nat.reduceSub, Nat.reduceLeDiff, Nat.reduceLT, Nat.reduceEqDiff, Nat.reduceMul, Nat.zero_add, Nat.add_zero, Nat.le_refl, Nat.zero_le, Int.reduceEq, Int.reduceToNat, Int.toNat_natCast, Int.reduceNeg, Int.reduceAdd, Int.reduceSub, Int.reduceMul, Int.reduceLT, Int.reduceLE, Int.reduceDiv, Int.reduceMod, Bool.false_eq_true, ↓reduceIte, true_and, and_true, implies_true, forall_const, true_or, or_true, or_false, false_or, not_true_eq_false, not_false_eq_true, false_implies, Prod.mk.injEq, Fin.val_zero, Fin.val_one, Fin.isValue, Fin.reduceFinMk, Fin.val_two, mR_uI, mK_uI, mN_uI, mI_uR, mK_uR, mN_uR, mR_uC, mK_uC, mN_uC, Option.some.injEq, Sum.inl.injEq, Sum.inr.injEq, decide_true, decide_false, Bool.or_false, Bool.false_or, Bool.or_true, Bool.true_or, Nat.reduceBEq, beq_self_eq_true, show tb 125 = tb_125 from rfl, tb_125, tb_125_0, tb_125_1, tb_125_2, pfb, pfb_b, pfb_c, pfb_v, pfa_b, pfa_c, pfa_v, hif, hs1.mk521, h8]
          refine Ev_mono (e_mbyteAt X M2 t i B hs1 hB1 ht) (fun r M3 hr _ _ => ?_)
          obtain ⟨rfl, hM3⟩ := hr
          subst hM3
          rw [gd_drop hd]
          have hl : 0 ≤ b - 120 ∧ b - 120 ≤ 2 := by omega
          have prp := he.1
          have prp2 := prp
          unfold isPr at prp2
          have hlb : 1 ≤ lpI (b - 120) ∧ lpI (b - 120) ≤ 1024 := by unfold lpI; split <;> (try split) <;> omega
          have hexb : ex p (b - 120) ≤ 15 := by
            rcases (show b - 120 = 0 ∨ b - 120 = 1 ∨ b - 120 = 2 by omega) with h | h | h <;> rw [h]
            · exact he.2.1
            · exact he.2.2.1
            · exact he.2.2.2
          by_cases h15 : ex p (b - 120) + 1 ≤ 15
          · rw [if_pos h15]
            have hne : ¬ ex p (b - 120) = 15 := by omega
            obtain ⟨u1, u2⟩ := up_e15 he hl (show (0 : Int) ≤ 1 by omega) h15
            have e1 : p + lpI (b - 120) = p + 1 * lpI (b - 120) := by omega
            have c8 : mI (uI M3 521 9 (p + 1 * lpI (b - 120))) 521 8 = i := (mI_uI_nk (by omega)).trans h8
            simp only [f_kG, psh, Nat.reduceAdd]
            refine G_w (pfb_ok X) LK_125 (fun i => i == 3) 40 _ _ _ _ ?_
            simp only [f_0, f_s, f_iconst, f_bipush, f_sipush, f_ldc, f_ldc_w, f_ldc2_w, f_ldI, f_ldL, f_ldA, f_iload, f_iload_n, f_lload, f_lload_n, f_aload, f_aload_n, f_istore, f_istore_n, f_lstore, f_lstore_n, f_astore, f_astore_n, f_iinc, f_icI, f_iadd, f_isub, f_imul, f_idiv, f_irem, f_iand, f_ior, f_ixor, f_ishl, f_ishr, f_iushr, f_i2l, f_i2b, f_i2s, f_ladd, f_lmul, f_lcmp, f_dupI, f_dupR, f_dup2, f_pop, f_goto, f_if, f_icmp, f_tab, f_ts0, f_ts1, f_getI, f_getZ, f_getR, f_putI, f_putR, f_gets, f_iald, f_bald, f_aald, f_iast, f_bast, f_aast, f_alen, f_new, f_newa, f_anew, f_virt, f_stat0, f_stat1, f_spec0, f_spec1, f_spec9, f_copy, f_max, f_min, f_cV1, f_cV0, f_cS1, f_cS0, f_iret, f_lret, f_vret, f_kG, pf0, cIg, inR, lget, lset, lset2, clr, entL, cnd, psh, catS, tsw, List.take_succ_cons, List.take_zero, List.drop_succ_cons, List.drop_zero, List.reverse_cons, List.reverse_nil, List.nil_append, List.cons_append, List.length_cons, List.length_nil, List.replicate_succ, List.replicate_zero, Nat.reduceAdd, Nat.reduceSub, Nat.reduceLeDiff, Nat.reduceLT, Nat.reduceEqDiff, Nat.reduceMul, Nat.zero_add, Nat.add_zero, Nat.le_refl, Nat.zero_le, Int.reduceEq, Int.reduceToNat, Int.toNat_natCast, Int.reduceNeg, Int.reduceAdd, Int.reduceSub, Int.reduceMul, Int.reduceLT, Int.reduceLE, Int.reduceDiv, Int.reduceMod, Bool.false_eq_true, ↓reduceIte, true_and, and_true, implies_true, forall_const, true_or, or_true, or_false, false_or, not_true_eq_false, not_false_eq_true, false_implies, Prod.mk.injEq, Fin.val_zero, Fin.val_one, Fin.isValue, Fin.reduceFinMk, Fin.val_two, mR_uI, mK_uI, mN_uI, mI_uR, mK_uR, mN_uR, mR_uC, mK_uC, mN_uC, Option.some.injEq, Sum.inl.injEq, Sum.inr.injEq, decide_true, decide_false, Bool.or_false, Bool.false_or, Bool.or_true, Bool.true_or, Nat.reduceBEq, beq_self_eq_true, show tb 125 = tb_125 from rfl, tb_125, tb_125_0, tb_125_1, tb_125_2, pfb, pfb_b, pfb_c, pfb_v, pfa_b, pfa_c, pfa_v, hs1.mk521, h9, prp, hne, lp_of, e1, c8, mI_uI_eq]
            have hF4 : Fr M3 (uI (uI M3 521 9 (p + 1 * lpI (b - 120))) 521 8 ((i : Int) + 1)) NN (fun k => k = 8 ∨ k = 9) NN := ((Fr.rf M3 NN (fun k => k = 8 ∨ k = 9) NN).uf (Or.inr rfl)).uf (Or.inl rfl)
            have f8 : mI (uI (uI M3 521 9 (p + 1 * lpI (b - 120))) 521 8 ((i : Int) + 1)) 521 8 = ((i + 1 : Nat) : Int) := mI_uI_eq
            have f9 : mI (uI (uI M3 521 9 (p + 1 * lpI (b - 120))) 521 8 ((i : Int) + 1)) 521 9 = p + 1 * lpI (b - 120) := (mI_uI_nk (by omega)).trans mI_uI_eq
            refine ⟨by omega, by omega, by omega, ?_⟩
            generalize uI (uI M3 521 9 (p + 1 * lpI (b - 120))) 521 8 ((i : Int) + 1) = M4 at hF4 f8 f9 ⊢
            have hs4 := hF4.shp hs1
            have hF14 := hF.tr hF4
            refine Ev_mono (e_mbyteAt X M4 t (i + 1) B hs4 (hB1.fr hF4 ⟨fun h => h, fun h => h⟩) ht) (fun r M5 hr _ _ => ?_)
            obtain ⟨rfl, hM5⟩ := hr
            subst hM5
            have ihn := fun v2 v3 => ih (i + 1) (p + 1 * lpI (b - 120)) M5 v2 v3 (by rw [d2]; omega) (by omega) u1 f8 f9 hF14
            rw [d2] at ihn
            cases hR1 : R1 with
            | nil =>
              rw [hR1] at d2 ihn
              rw [gd_nil d2]
              have hif2 : (if (1 : Int) ≤ -1 - 49 ∧ (-1 : Int) - 49 ≤ 8 then (1 : Int) else 0) = 0 := if_neg (by omega)
              have hlt : ltR k [] (i + 1) (p + 1 * lpI (b - 120)) = (true, i + 1, p + 1 * lpI (b - 120)) := by cases k <;> rfl
              rw [hlt] at ihn
              simp only [f_kG, psh, Nat.reduceAdd]
              refine G_w (pfb_ok X) LK_125 (fun i => i == 3) 40 _ _ _ _ ?_
              simp only [f_0, f_s, f_iconst, f_bipush, f_sipush, f_ldc, f_ldc_w, f_ldc2_w, f_ldI, f_ldL, f_ldA, f_iload, f_iload_n, f_lload, f_lload_n, f_aload, f_aload_n, f_istore, f_istore_n, f_lstore, f_lstore_n, f_astore, f_astore_n, f_iinc, f_icI, f_iadd, f_isub, f_imul, f_idiv, f_irem, f_iand, f_ior, f_ixor, f_ishl, f_ishr, f_iushr, f_i2l, f_i2b, f_i2s, f_ladd, f_lmul, f_lcmp, f_dupI, f_dupR, f_dup2, f_pop, f_goto, f_if, f_icmp, f_tab, f_ts0, f_ts1, f_getI, f_getZ, f_getR, f_putI, f_putR, f_gets, f_iald, f_bald, f_aald, f_iast, f_bast, f_aast, f_alen, f_new, f_newa, f_anew, f_virt, f_stat0, f_stat1, f_spec0, f_spec1, f_spec9, f_copy, f_max, f_min, f_cV1, f_cV0, f_cS1, f_cS0, f_iret, f_lret, f_vret, f_kG, pf0, cIg, inR, lget, lset, lset2, clr, entL, cnd, psh, catS, tsw, List.take_succ_cons, List.take_zero, List.drop_succ_cons, List.drop_zero, List.reverse_cons, List.reverse_nil, List.nil_append, List.cons_append, List.length_cons, List.length_nil, List.replicate_succ, List.replicate_zero, Nat.reduceAdd, Nat.reduceSub, Nat.reduceLeDiff, Nat.reduceLT, Nat.reduceEqDiff, Nat.reduceMul, Nat.zero_add, Nat.add_zero, Nat.le_refl, Nat.zero_le, Int.reduceEq, Int.reduceToNat, Int.toNat_natCast, Int.reduceNeg, Int.reduceAdd, Int.reduceSub, Int.reduceMul, Int.reduceLT, Int.reduceLE, Int.reduceDiv, Int.reduceMod, Bool.false_eq_true, ↓reduceIte, true_and, and_true, implies_true, forall_const, true_or, or_true, or_false, false_or, not_true_eq_false, not_false_eq_true, false_implies, Prod.mk.injEq, Fin.val_zero, Fin.val_one, Fin.isValue, Fin.reduceFinMk, Fin.val_two, mR_uI, mK_uI, mN_uI, mI_uR, mK_uR, mN_uR, mR_uC, mK_uC, mN_uC, Option.some.injEq, Sum.inl.injEq, Sum.inr.injEq, decide_true, decide_false, Bool.or_false, Bool.false_or, Bool.or_true, Bool.true_or, Nat.reduceBEq, beq_self_eq_true, show tb 125 = tb_125 from rfl, tb_125, tb_125_0, tb_125_1, tb_125_2, pfb, pfb_b, pfb_c, pfb_v, pfa_b, pfa_c, pfa_v, hif2]
              (repeat' (first | with_reducible apply And.intro | with_reducible intro _)) <;> (try omega)
              all_goals exact ihn _ _
            | cons c R2 =>
              rw [hR1] at d2 ihn hk
              obtain ⟨x1, x2, x3⟩ := drop_cons d2
              have hcb := hB.2.2.2 c (List.mem_of_getElem? x1)
              rw [gd_drop d2]
              simp only
              by_cases hc : 50 ≤ c ∧ c ≤ 57
              · have hif2 : (if (1 : Int) ≤ c - 49 ∧ c - 49 ≤ 8 then (1 : Int) else 0) = 1 := if_pos (by omega)
                rw [if_pos hc]
                have prq := u1.1
                have prq2 := prq
                unfold isPr at prq2
                have exq := ex_b (p + 1 * lpI (b - 120)) (b - 120)
                by_cases h16 : ex (p + 1 * lpI (b - 120)) (b - 120) + (c - 49) ≤ 15
                · rw [if_pos h16]
                  obtain ⟨v1, v2⟩ := up_e15 u1 hl (show 0 ≤ c - 49 by omega) h16
                  have hmb : 0 ≤ (c - 49) * lpI (b - 120) ∧ (c - 49) * lpI (b - 120) ≤ 8 * 1024 := ⟨Int.mul_nonneg (by omega) (by omega), Int.mul_le_mul (by omega) (by omega) (by omega) (by omega)⟩
                  have c8' : mI (uI M5 521 9 (p + 1 * lpI (b - 120) + (c - 49) * lpI (b - 120))) 521 8 = ((i + 1 : Nat) : Int) := (mI_uI_nk (by omega)).trans f8
                  have hF6 : Fr M5 (uI (uI M5 521 9 (p + 1 * lpI (b - 120) + (c - 49) * lpI (b - 120))) 521 8 (((i + 1 : Nat) : Int) + 1)) NN (fun k => k = 8 ∨ k = 9) NN := ((Fr.rf M5 NN (fun k => k = 8 ∨ k = 9) NN).uf (Or.inr rfl)).uf (Or.inl rfl)
                  have hn := fun v2 v3 => ih (i + 2) (p + 1 * lpI (b - 120) + (c - 49) * lpI (b - 120)) (uI (uI M5 521 9 (p + 1 * lpI (b - 120) + (c - 49) * lpI (b - 120))) 521 8 (((i + 1 : Nat) : Int) + 1)) v2 v3 (by rw [show i + 2 = i + 1 + 1 from rfl, x2]; simp only [List.length_cons] at hk; omega) (by omega) v1 (by rw [mI_uI_eq]; omega) ((mI_uI_nk (by omega)).trans mI_uI_eq) (hF14.tr hF6)
                  rw [show i + 2 = i + 1 + 1 from rfl, x2] at hn
                  simp only [f_kG, psh, Nat.reduceAdd]
                  refine G_w (pfb_ok X) LK_125 (fun i => i == 3) 60 _ _ _ _ ?_
                  simp only [f_0, f_s, f_iconst, f_bipush, f_sipush, f_ldc, f_ldc_w, f_ldc2_w, f_ldI, f_ldL, f_ldA, f_iload, f_iload_n, f_lload, f_lload_n, f_aload, f_aload_n, f_istore, f_istore_n, f_lstore, f_lstore_n, f_astore, f_astore_n, f_iinc, f_icI, f_iadd, f_isub, f_imul, f_idiv, f_irem, f_iand, f_ior, f_ixor, f_ishl, f_ishr, f_iushr, f_i2l, f_i2b, f_i2s, f_ladd, f_lmul, f_lcmp, f_dupI, f_dupR, f_dup2, f_pop, f_goto, f_if, f_icmp, f_tab, f_ts0, f_ts1, f_getI, f_getZ, f_getR, f_putI, f_putR, f_gets, f_iald, f_bald, f_aald, f_iast, f_bast, f_aast, f_alen, f_new, f_newa, f_anew, f_virt, f_stat0, f_stat1, f_spec0, f_spec1, f_spec9, f_copy, f_max, f_min, f_cV1, f_cV0, f_cS1, f_cS0, f_iret, f_lret, f_vret, f_kG, pf0, cIg, inR, lget, lset, lset2, clr, entL, cnd, psh, catS, tsw, List.take_succ_cons, List.take_zero, List.drop_succ_cons, List.drop_zero, List.reverse_cons, List.reverse_nil, List.nil_append, List.cons_append, List.length_cons, List.length_nil, List.replicate_succ, List.replicate_zero, Nat.reduceAdd, Nat.reduceSub, Nat.reduceLeDiff, Nat.reduceLT, Nat.reduceEqDiff, Nat.reduceMul, Nat.zero_add, Nat.add_zero, Nat.le_refl, Nat.zero_le, Int.reduceEq, Int.reduceToNat, Int.toNat_natCast, Int.reduceNeg, Int.reduceAdd, Int.reduceSub, Int.reduceMul, Int.reduceLT, Int.reduceLE, Int.reduceDiv, Int.reduceMod, Bool.false_eq_true, ↓reduceIte, true_and, and_true, implies_true, forall_const, true_or, or_true, or_false, false_or, not_true_eq_false, not_false_eq_true, false_implies, Prod.mk.injEq, Fin.val_zero, Fin.val_one, Fin.isValue, Fin.reduceFinMk, Fin.val_two, mR_uI, mK_uI, mN_uI, mI_uR, mK_uR, mN_uR, mR_uC, mK_uC, mN_uC, Option.some.injEq, Sum.inl.injEq, Sum.inr.injEq, decide_true, decide_false, Bool.or_false, Bool.false_or, Bool.or_true, Bool.true_or, Nat.reduceBEq, beq_self_eq_true, show tb 125 = tb_125 from rfl, tb_125, tb_125_0, tb_125_1, tb_125_2, pfb, pfb_b, pfb_c, pfb_v, pfa_b, pfa_c, pfa_v, hif2, hs4.mk521, f9, f8, prq, h16, lp_of, c8']
                  (repeat' (first | with_reducible apply And.intro | with_reducible intro _)) <;> (try omega)
                  all_goals exact hn _ _
                · rw [if_neg h16]
                  have hfin : LE M (false, i + 1, p + 1 * lpI (b - 120)) (some (aI 0)) M5 := ⟨rfl, hF14, f8, f9⟩
                  simp only [f_kG, psh, Nat.reduceAdd]
                  refine G_w (pfb_ok X) LK_125 (fun i => i == 3) 60 _ _ _ _ ?_
                  simp only [f_0, f_s, f_iconst, f_bipush, f_sipush, f_ldc, f_ldc_w, f_ldc2_w, f_ldI, f_ldL, f_ldA, f_iload, f_iload_n, f_lload, f_lload_n, f_aload, f_aload_n, f_istore, f_istore_n, f_lstore, f_lstore_n, f_astore, f_astore_n, f_iinc, f_icI, f_iadd, f_isub, f_imul, f_idiv, f_irem, f_iand, f_ior, f_ixor, f_ishl, f_ishr, f_iushr, f_i2l, f_i2b, f_i2s, f_ladd, f_lmul, f_lcmp, f_dupI, f_dupR, f_dup2, f_pop, f_goto, f_if, f_icmp, f_tab, f_ts0, f_ts1, f_getI, f_getZ, f_getR, f_putI, f_putR, f_gets, f_iald, f_bald, f_aald, f_iast, f_bast, f_aast, f_alen, f_new, f_newa, f_anew, f_virt, f_stat0, f_stat1, f_spec0, f_spec1, f_spec9, f_copy, f_max, f_min, f_cV1, f_cV0, f_cS1, f_cS0, f_iret, f_lret, f_vret, f_kG, pf0, cIg, inR, lget, lset, lset2, clr, entL, cnd, psh, catS, tsw, List.take_succ_cons, List.take_zero, List.drop_succ_cons, List.drop_zero, List.reverse_cons, List.reverse_nil, List.nil_append, List.cons_append, List.length_cons, List.length_nil, List.replicate_succ, List.replicate_zero, Nat.reduceAdd, Nat.reduceSub, Nat.reduceLeDiff, Nat.reduceLT, Nat.reduceEqDiff, Nat.reduceMul, Nat.zero_add, Nat.add_zero, Nat.le_refl, Nat.zero_le, Int.reduceEq, Int.reduceToNat, Int.toNat_natCast, Int.reduceNeg, Int.reduceAdd, Int.reduceSub, Int.reduceMul, Int.reduceLT, Int.reduceLE, Int.reduceDiv, Int.reduceMod, Bool.false_eq_true, ↓reduceIte, true_and, and_true, implies_true, forall_const, true_or, or_true, or_false, false_or, not_true_eq_false, not_false_eq_true, false_implies, Prod.mk.injEq, Fin.val_zero, Fin.val_one, Fin.isValue, Fin.reduceFinMk, Fin.val_two, mR_uI, mK_uI, mN_uI, mI_uR, mK_uR, mN_uR, mR_uC, mK_uC, mN_uC, Option.some.injEq, Sum.inl.injEq, Sum.inr.injEq, decide_true, decide_false, Bool.or_false, Bool.false_or, Bool.or_true, Bool.true_or, Nat.reduceBEq, beq_self_eq_true, show tb 125 = tb_125 from rfl, tb_125, tb_125_0, tb_125_1, tb_125_2, pfb, pfb_b, pfb_c, pfb_v, pfa_b, pfa_c, pfa_v, hif2, hs4.mk521, f9, prq, h16]
                  (repeat' (first | with_reducible apply And.intro | with_reducible intro _)) <;> (try omega)
                  all_goals exact hfin
              · have hif2 : (if (1 : Int) ≤ c - 49 ∧ c - 49 ≤ 8 then (1 : Int) else 0) = 0 := if_neg (by omega)
                rw [if_neg hc]
                simp only [f_kG, psh, Nat.reduceAdd]
                refine G_w (pfb_ok X) LK_125 (fun i => i == 3) 40 _ _ _ _ ?_
                simp only [f_0, f_s, f_iconst, f_bipush, f_sipush, f_ldc, f_ldc_w, f_ldc2_w, f_ldI, f_ldL, f_ldA, f_iload, f_iload_n, f_lload, f_lload_n, f_aload, f_aload_n, f_istore, f_istore_n, f_lstore, f_lstore_n, f_astore, f_astore_n, f_iinc, f_icI, f_iadd, f_isub, f_imul, f_idiv, f_irem, f_iand, f_ior, f_ixor, f_ishl, f_ishr, f_iushr, f_i2l, f_i2b, f_i2s, f_ladd, f_lmul, f_lcmp, f_dupI, f_dupR, f_dup2, f_pop, f_goto, f_if, f_icmp, f_tab, f_ts0, f_ts1, f_getI, f_getZ, f_getR, f_putI, f_putR, f_gets, f_iald, f_bald, f_aald, f_iast, f_bast, f_aast, f_alen, f_new, f_newa, f_anew, f_virt, f_stat0, f_stat1, f_spec0, f_spec1, f_spec9, f_copy, f_max, f_min, f_cV1, f_cV0, f_cS1, f_cS0, f_iret, f_lret, f_vret, f_kG, pf0, cIg, inR, lget, lset, lset2, clr, entL, cnd, psh, catS, tsw, List.take_succ_cons, List.take_zero, List.drop_succ_cons, List.drop_zero, List.reverse_cons, List.reverse_nil, List.nil_append, List.cons_append, List.length_cons, List.length_nil, List.replicate_succ, List.replicate_zero, Nat.reduceAdd, Nat.reduceSub, Nat.reduceLeDiff, Nat.reduceLT, Nat.reduceEqDiff, Nat.reduceMul, Nat.zero_add, Nat.add_zero, Nat.le_refl, Nat.zero_le, Int.reduceEq, Int.reduceToNat, Int.toNat_natCast, Int.reduceNeg, Int.reduceAdd, Int.reduceSub, Int.reduceMul, Int.reduceLT, Int.reduceLE, Int.reduceDiv, Int.reduceMod, Bool.false_eq_true, ↓reduceIte, true_and, and_true, implies_true, forall_const, true_or, or_true, or_false, false_or, not_true_eq_false, not_false_eq_true, false_implies, Prod.mk.injEq, Fin.val_zero, Fin.val_one, Fin.isValue, Fin.reduceFinMk, Fin.val_two, mR_uI, mK_uI, mN_uI, mI_uR, mK_uR, mN_uR, mR_uC, mK_uC, mN_uC, Option.some.injEq, Sum.inl.injEq, Sum.inr.injEq, decide_true, decide_false, Bool.or_false, Bool.false_or, Bool.or_true, Bool.true_or, Nat.reduceBEq, beq_self_eq_true, show tb 125 = tb_125 from rfl, tb_125, tb_125_0, tb_125_1, tb_125_2, pfb, pfb_b, pfb_c, pfb_v, pfa_b, pfa_c, pfa_v, hif2]
                (repeat' (first | with_reducible apply And.intro | with_reducible intro _)) <;> (try omega)
                all_goals exact ihn _ _
          · rw [if_neg h15]
            have heq : ex p (b - 120) = 15 := by omega
            simp only [f_kG, psh, Nat.reduceAdd]
            refine G_w (pfb_ok X) LK_125 (fun i => i == 3) 40 _ _ _ _ ?_
            simp only [f_0, f_s, f_iconst, f_bipush, f_sipush, f_ldc, f_ldc_w, f_ldc2_w, f_ldI, f_ldL, f_ldA, f_iload, f_iload_n, f_lload, f_lload_n, f_aload, f_aload_n, f_istore, f_istore_n, f_lstore, f_lstore_n, f_astore, f_astore_n, f_iinc, f_icI, f_iadd, f_isub, f_imul, f_idiv, f_irem, f_iand, f_ior, f_ixor, f_ishl, f_ishr, f_iushr, f_i2l, f_i2b, f_i2s, f_ladd, f_lmul, f_lcmp, f_dupI, f_dupR, f_dup2, f_pop, f_goto, f_if, f_icmp, f_tab, f_ts0, f_ts1, f_getI, f_getZ, f_getR, f_putI, f_putR, f_gets, f_iald, f_bald, f_aald, f_iast, f_bast, f_aast, f_alen, f_new, f_newa, f_anew, f_virt, f_stat0, f_stat1, f_spec0, f_spec1, f_spec9, f_copy, f_max, f_min, f_cV1, f_cV0, f_cS1, f_cS0, f_iret, f_lret, f_vret, f_kG, pf0, cIg, inR, lget, lset, lset2, clr, entL, cnd, psh, catS, tsw, List.take_succ_cons, List.take_zero, List.drop_succ_cons, List.drop_zero, List.reverse_cons, List.reverse_nil, List.nil_append, List.cons_append, List.length_cons, List.length_nil, List.replicate_succ, List.replicate_zero, Nat.reduceAdd, Nat.reduceSub, Nat.reduceLeDiff, Nat.reduceLT, Nat.reduceEqDiff, Nat.reduceMul, Nat.zero_add, Nat.add_zero, Nat.le_refl, Nat.zero_le, Int.reduceEq, Int.reduceToNat, Int.toNat_natCast, Int.reduceNeg, Int.reduceAdd, Int.reduceSub, Int.reduceMul, Int.reduceLT, Int.reduceLE, Int.reduceDiv, Int.reduceMod, Bool.false_eq_true, ↓reduceIte, true_and, and_true, implies_true, forall_const, true_or, or_true, or_false, false_or, not_true_eq_false, not_false_eq_true, false_implies, Prod.mk.injEq, Fin.val_zero, Fin.val_one, Fin.isValue, Fin.reduceFinMk, Fin.val_two, mR_uI, mK_uI, mN_uI, mI_uR, mK_uR, mN_uR, mR_uC, mK_uC, mN_uC, Option.some.injEq, Sum.inl.injEq, Sum.inr.injEq, decide_true, decide_false, Bool.or_false, Bool.false_or, Bool.or_true, Bool.true_or, Nat.reduceBEq, beq_self_eq_true, show tb 125 = tb_125 from rfl, tb_125, tb_125_0, tb_125_1, tb_125_2, pfb, pfb_b, pfb_c, pfb_v, pfa_b, pfa_c, pfa_v, hs1.mk521, h9, prp, heq]
            exact ⟨by omega, rfl, hF, h8, h9⟩
        · have hif : (if (120 : Int) ≤ b ∧ b ≤ 122 then (1 : Int) else 0) = 0 := if_neg hb
          rw [if_neg hb]
          simp only [f_kG, psh, Nat.reduceAdd]
          refine G_w (pfb_ok X) LK_125 (fun i => i == 3) 20 _ _ _ _ ?_
          simp only [f_0, f_s, f_iconst, f_bipush, f_sipush, f_ldc, f_ldc_w, f_ldc2_w, f_ldI, f_ldL, f_ldA, f_iload, f_iload_n, f_lload, f_lload_n, f_aload, f_aload_n, f_istore, f_istore_n, f_lstore, f_lstore_n, f_astore, f_astore_n, f_iinc, f_icI, f_iadd, f_isub, f_imul, f_idiv, f_irem, f_iand, f_ior, f_ixor, f_ishl, f_ishr, f_iushr, f_i2l, f_i2b, f_i2s, f_ladd, f_lmul, f_lcmp, f_dupI, f_dupR, f_dup2, f_pop, f_goto, f_if, f_icmp, f_tab, f_ts0, f_ts1, f_getI, f_getZ, f_getR, f_putI, f_putR, f_gets, f_iald, f_bald, f_aald, f_iast, f_bast, f_aast, f_alen, f_new, f_newa, f_anew, f_virt, f_stat0, f_stat1, f_spec0, f_spec1, f_spec9, f_copy, f_max, f_min, f_cV1, f_cV0, f_cS1, f_cS0, f_iret, f_lret, f_vret, f_kG, pf0, cIg, inR, lget, lset, lset2, clr, entL, cnd, psh, catS, tsw, List.take_succ_cons, List.take_zero, List.drop_succ_cons, List.drop_zero, List.reverse_cons, List.reverse_nil, List.nil_append, List.cons_append, List.length_cons, List.length_nil, List.replicate_succ, List.replicate_zero, Nat.reduceAdd, Nat.reduceSub, Nat.reduceLeDiff, Nat.reduceLT, Nat.reduceEqDiff, Nat.reduceMul, Nat.zero_add, Nat.add_zero, Nat.le_refl, Nat.zero_le, Int.reduceEq, Int.reduceToNat, Int.toNat_natCast, Int.reduceNeg, Int.reduceAdd, Int.reduceSub, Int.reduceMul, Int.reduceLT, Int.reduceLE, Int.reduceDiv, Int.reduceMod, Bool.false_eq_true, ↓reduceIte, true_and, and_true, implies_true, forall_const, true_or, or_true, or_false, false_or, not_true_eq_false, not_false_eq_true, false_implies, Prod.mk.injEq, Fin.val_zero, Fin.val_one, Fin.isValue, Fin.reduceFinMk, Fin.val_two, mR_uI, mK_uI, mN_uI, mI_uR, mK_uR, mN_uR, mR_uC, mK_uC, mN_uC, Option.some.injEq, Sum.inl.injEq, Sum.inr.injEq, decide_true, decide_false, Bool.or_false, Bool.false_or, Bool.or_true, Bool.true_or, Nat.reduceBEq, beq_self_eq_true, show tb 125 = tb_125 from rfl, tb_125, tb_125_0, tb_125_1, tb_125_2, pfb, pfb_b, pfb_c, pfb_v, pfa_b, pfa_c, pfa_v, hif]
          exact ⟨rfl, hF, h8, h9⟩
  refine Ev_of mcd_125 mok_125 (by decide) rfl (Nat.le_of_ble_eq_true rfl) ?_
  rw [show yl 125 = 4 from rfl]
  refine G_w (pfb_ok X) LK_125 (fun i => i == 3) 10 _ _ _ _ ?_
  simp only [f_0, f_s, f_iconst, f_bipush, f_sipush, f_ldc, f_ldc_w, f_ldc2_w, f_ldI, f_ldL, f_ldA, f_iload, f_iload_n, f_lload, f_lload_n, f_aload, f_aload_n, f_istore, f_istore_n, f_lstore, f_lstore_n, f_astore, f_astore_n, f_iinc, f_icI, f_iadd, f_isub, f_imul, f_idiv, f_irem, f_iand, f_ior, f_ixor, f_ishl, f_ishr, f_iushr, f_i2l, f_i2b, f_i2s, f_ladd, f_lmul, f_lcmp, f_dupI, f_dupR, f_dup2, f_pop, f_goto, f_if, f_icmp, f_tab, f_ts0, f_ts1, f_getI, f_getZ, f_getR, f_putI, f_putR, f_gets, f_iald, f_bald, f_aald, f_iast, f_bast, f_aast, f_alen, f_new, f_newa, f_anew, f_virt, f_stat0, f_stat1, f_spec0, f_spec1, f_spec9, f_copy, f_max, f_min, f_cV1, f_cV0, f_cS1, f_cS0, f_iret, f_lret, f_vret, f_kG, pf0, cIg, inR, lget, lset, lset2, clr, entL, cnd, psh, catS, tsw, List.take_succ_cons, List.take_zero, List.drop_succ_cons, List.drop_zero, List.reverse_cons, List.reverse_nil, List.nil_append, List.cons_append, List.length_cons, List.length_nil, List.replicate_succ, List.replicate_zero, Nat.reduceAdd, Nat.reduceSub, Nat.reduceLeDiff, Nat.reduceLT, Nat.reduceEqDiff, Nat.reduceMul, Nat.zero_add, Nat.add_zero, Nat.le_refl, Nat.zero_le, Int.reduceEq, Int.reduceToNat, Int.toNat_natCast, Int.reduceNeg, Int.reduceAdd, Int.reduceSub, Int.reduceMul, Int.reduceLT, Int.reduceLE, Int.reduceDiv, Int.reduceMod, Bool.false_eq_true, ↓reduceIte, true_and, and_true, implies_true, forall_const, true_or, or_true, or_false, false_or, not_true_eq_false, not_false_eq_true, false_implies, Prod.mk.injEq, Fin.val_zero, Fin.val_one, Fin.isValue, Fin.reduceFinMk, Fin.val_two, mR_uI, mK_uI, mN_uI, mI_uR, mK_uR, mN_uR, mR_uC, mK_uC, mN_uC, Option.some.injEq, Sum.inl.injEq, Sum.inr.injEq, decide_true, decide_false, Bool.or_false, Bool.false_or, Bool.or_true, Bool.true_or, Nat.reduceBEq, beq_self_eq_true, show tb 125 = tb_125 from rfl, tb_125, tb_125_0, tb_125_1, tb_125_2, pfb, pfb_b, pfb_c, pfb_v, pfa_b, pfa_c, pfa_v, hs.mk521]
  exact loop 31 i 0 _ none none (by rw [List.length_drop]; have := hB.2.2.1; omega) hi ⟨by unfold isPr; omega, by decide, by decide, by decide⟩ ((mI_uI_nk (by omega)).trans hat) mI_uI_eq ((Fr.rf M NN (fun k => k = 8 ∨ k = 9) NN).uf (Or.inr rfl))
