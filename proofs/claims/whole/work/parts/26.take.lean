/-! Completion.takeAway: two sorted lists become one -/
theorem rk_nn {o p : Int} (h : isPr p) : 0 ≤ rk o p := by
  have b0 := ex_b p 0; have b1 := ex_b p 1; have b2 := ex_b p 2
  have e2 : p % 32 = ex p 2 := rfl
  have e1 : p / 32 % 32 = ex p 1 := rfl
  unfold isPr at h
  unfold rk dg
  rw [e2, e1]
  split
  · omega
  · split <;> omega
def cns (s q : Int) (R : Po) : Po := if s = 0 then R else (s, q) :: R
/-- A, less a multiple of B: n is what is left of the number, f the factor -/
def mrg (o n f : Int) : Po → Po → Po
  | [], [] => []
  | a :: A, [] => a :: mrg o n f A []
  | [], b :: B => cns ((0 + n * b.1) % 31) (b.2 + f) (mrg o n f [] B)
  | a :: A, b :: B => if rk o (b.2 + f) < rk o a.2 then a :: mrg o n f A (b :: B)
    else if rk o a.2 < rk o (b.2 + f) then cns ((0 + n * b.1) % 31) (b.2 + f) (mrg o n f (a :: A) B)
    else cns ((a.1 + n * b.1) % 31) a.2 (mrg o n f A B)
termination_by A B => A.length + B.length
/-- what the places from s on of the two rows hold -/
def MG (M : Mem) (c s : Nat) (R : Po) : Prop := ∀ (k : Nat) (t : Int × Int), R[k]? = some t → mI M (c + 78) (s + k) = t.1 ∧ mI M (c + 79) (s + k) = t.2
theorem MG_push {M : Mem} {c s : Nat} {R : Po} {v q : Int} (h : MG M c s R) : MG (uI (uI M (c + 79) (s + R.length) q) (c + 78) (s + R.length) v) c s (R ++ [(v, q)]) := by
  intro k t ht
  by_cases hk : k < R.length
  · rw [List.getElem?_append_left hk] at ht
    rw [mI_uI_nk (by omega), mI_uI_ne (x := c + 78) (a := c + 79) (by omega), mI_uI_ne (x := c + 79) (a := c + 78) (by omega), mI_uI_nk (by omega)]
    exact h k t ht
  · rw [List.getElem?_append_right (by omega)] at ht
    have h1 : k - R.length < 1 := (List.getElem?_eq_some_iff.mp ht).1
    have h2 : k = R.length := by omega
    subst h2
    rw [Nat.sub_self] at ht
    cases ht
    rw [mI_uI_eq, mI_uI_ne (x := c + 79) (a := c + 78) (by omega), mI_uI_eq]
    exact ⟨rfl, rfl⟩
theorem MG_zero {M : Mem} {c s : Nat} {R : Po} {v q : Int} (h : MG M c s R) : MG (uI (uI M (c + 79) (s + R.length) q) (c + 78) (s + R.length) v) c s R := by
  intro k t ht
  have hk : k < R.length := (List.getElem?_eq_some_iff.mp ht).1
  rw [mI_uI_nk (by omega), mI_uI_ne (x := c + 78) (a := c + 79) (by omega), mI_uI_ne (x := c + 79) (a := c + 78) (by omega), mI_uI_nk (by omega)]
  exact h k t ht
abbrev TS (p c : Nat) : Nat → Prop := fun a => T3 p a ∨ a = c + 78 ∨ a = c + 79
/-- how it ends -/
def TK (M : Mem) (p c s : Nat) (o n f : Int) (L B : Po) (r : Option AV) (M' : Mem) : Prop := Same M M' (TS p c) ∧ ((r = some (aI 1) ∧ brs B f = true ∧ s + (mrg o n f (L.drop s) B).length ≤ 30 ∧ PL M' p (L.take s ++ mrg o n f (L.drop s) B)) ∨ (r = some (aI 0) ∧ (brs B f = false ∨ 30 < s + (mrg o n f (L.drop s) B).length)))
set_option maxRecDepth 100000 in
set_option maxHeartbeats 4000000 in
theorem t_loop (X : CX) (M : Mem) (c p m s : Nat) (o n f : Int) (L B : Po) (z : JZ) (hz : z = (mZ M, mS M, 0, 0)) (hc : mK M c = 5) (hc4 : mI M c 4 = o) (hc6 : mR M c 6 = some (c + 78)) (hc7 : mR M c 7 = some (c + 79)) (hc8 : mK M (c + 78) = 20 ∧ mN M (c + 78) = 60) (hc9 : mK M (c + 79) = 20 ∧ mN M (c + 79) = 60)
    (hp : PA M p) (hm : PA M m) (hd1 : p + 1 ≠ c + 78 ∧ p + 1 ≠ c + 79 ∧ p + 2 ≠ c + 78 ∧ p + 2 ≠ c + 79 ∧ p ≠ c + 78 ∧ p ≠ c + 79) (hd2 : m + 1 ≠ c + 78 ∧ m + 1 ≠ c + 79 ∧ m + 2 ≠ c + 78 ∧ m + 2 ≠ c + 79 ∧ m ≠ c + 78 ∧ m ≠ c + 79)
    (hL : PL M p L) (hB : PL M m B) (okL : okP L) (okB : okP B) (hBf : ∀ t ∈ B, isPr (t.2 + f)) (hn : 1 ≤ n ∧ n ≤ 30) (hf : isPr f) (hs : s ≤ L.length) (hbr : brs B f = true) :
    ∀ (d i j : Nat) (R : Po) (M1 : Mem) (v9 v10 v11 : Option AV), (L.length - i) + (B.length - j) = d → s ≤ i → i ≤ L.length → j ≤ B.length → s + R.length ≤ i + j → Same M M1 (fun a => a = c + 78 ∨ a = c + 79) → MG M1 c s R → R ++ mrg o n f (L.drop i) (B.drop j) = mrg o n f (L.drop s) B →
    G X y_Completion_takeAway z 29 [some (aR (some c)), some (aR (some p)), some (aI s), some (aR (some m)), some (aI f), some (aI n), some (aI i), some (aI j), some (aI (s + R.length : Nat)), v9, v10, v11] [] M1 (TK M p c s o n f L B) := by
  subst hz
  obtain ⟨p1, p2, p3, p4, p5, p6, p7⟩ := hp
  obtain ⟨m1, m2, m3, m4, m5, m6, m7⟩ := hm
  obtain ⟨l1, l2, l3⟩ := hL
  obtain ⟨b1, b2, b3⟩ := hB
  intro d
  induction d using Nat.strongRecOn with
  | _ d ih =>
  intro i j R M1 v9 v10 v11 hd hsi hi hj hR hS hMG hm
  by_cases hd0 : d = 0
  · have q1 := (hS.1 p).trans p1; have q2 := (hS.1 (p + 1)).trans p2; have q3 := (hS.1 (p + 2)).trans p3; have q4 := (hS.2.1 (p + 1)).trans p4; have q5 := (hS.2.1 (p + 2)).trans p5; have q6 := (hS.2.2.1 p 0).trans p6; have q7 := (hS.2.2.1 p 1).trans p7
    have u1 := (hS.1 m).trans m1
    have w1 := (hS.1 c).trans hc; have w6 := (hS.2.2.1 c 6).trans hc6; have w7 := (hS.2.2.1 c 7).trans hc7
    have w8 := (hS.1 (c + 78)).trans hc8.1; have w9 := (hS.2.1 (c + 78)).trans hc8.2; have w10 := (hS.1 (c + 79)).trans hc9.1; have w11 := (hS.2.1 (c + 79)).trans hc9.2
    have x1 := (hS.2.2.2 p 2 (by omega)).trans l1; have x2 := (hS.2.2.2 m 2 (by omega)).trans b1
    have c1 : ¬ ((i : Int) < (L.length : Int)) := by omega
    have c2 : ((B.length : Int) ≤ (j : Int)) := by omega
    rw [List.drop_eq_nil_of_le (by omega), List.drop_eq_nil_of_le (by omega), mrg, List.append_nil] at hm
    have hlen : ((s + R.length : Nat) : Int) - (s : Int) = (R.length : Int) := by omega
    refine G_w (pfb_ok X) LK_52 (fun i => i == 29) 50 _ _ _ _ ?_
    simp only [f_0, f_s, f_iconst, f_bipush, f_sipush, f_ldc, f_ldc_w, f_ldc2_w, f_ldI, f_ldL, f_ldA, f_iload, f_iload_n, f_lload, f_lload_n, f_aload, f_aload_n, f_istore, f_istore_n, f_lstore, f_lstore_n, f_astore, f_astore_n, f_iinc, f_icI, f_iadd, f_isub, f_imul, f_idiv, f_irem, f_iand, f_ior, f_ixor, f_ishl, f_ishr, f_iushr, f_i2l, f_i2b, f_i2s, f_ladd, f_lmul, f_lcmp, f_dupI, f_dupR, f_dup2, f_pop, f_goto, f_if, f_icmp, f_tab, f_ts0, f_ts1, f_getI, f_getZ, f_getR, f_putI, f_putR, f_gets, f_iald, f_bald, f_aald, f_iast, f_bast, f_aast, f_alen, f_new, f_newa, f_anew, f_virt, f_stat0, f_stat1, f_spec0, f_spec1, f_spec9, f_copy, f_max, f_min, f_cV1, f_cV0, f_cS1, f_cS0, f_iret, f_lret, f_vret, f_kG, pf0, cIg, inR, lget, lset, lset2, clr, entL, cnd, psh, catS, tsw, List.take_succ_cons, List.take_zero, List.drop_succ_cons, List.drop_zero, List.reverse_cons, List.reverse_nil, List.nil_append, List.cons_append, List.length_cons, List.length_nil, List.replicate_succ, List.replicate_zero, Nat.reduceAdd, Nat.reduceSub, Nat.reduceLeDiff, Nat.reduceLT, Nat.reduceEqDiff, Nat.reduceMul, Nat.zero_add, Nat.add_zero, Nat.le_refl, Nat.zero_le, Int.reduceEq, Int.reduceToNat, Int.toNat_natCast, Int.reduceNeg, Int.reduceAdd, Int.reduceSub, Int.reduceMul, Int.reduceLT, Int.reduceLE, Int.reduceDiv, Int.reduceMod, Bool.false_eq_true, ↓reduceIte, true_and, and_true, implies_true, forall_const, true_or, or_true, or_false, false_or, not_true_eq_false, not_false_eq_true, false_implies, Prod.mk.injEq, Fin.val_zero, Fin.val_one, Fin.isValue, Fin.reduceFinMk, Fin.val_two, mR_uI, mK_uI, mN_uI, mI_uR, mK_uR, mN_uR, mR_uC, mK_uC, mN_uC, Option.some.injEq, Sum.inl.injEq, Sum.inr.injEq, decide_true, decide_false, Bool.or_false, Bool.false_or, Bool.or_true, Bool.true_or, Nat.reduceBEq, beq_self_eq_true, show tb 52 = tb_52 from rfl, tb_52, tb_52_0, tb_52_1, tb_52_2, tb_52_3, tb_52_4, pfb, pfb_b, pfb_c, pfb_v, pfa_b, pfa_c, pfa_v, q1, q2, q3, q4, q5, q6, q7, u1, w1, w6, w7, w8, w9, w10, w11, x1, x2, c1, c2, hlen]
    refine ⟨fun h30 => ⟨by omega, by omega, by omega, by omega, ?_⟩, fun h30 => ?_⟩
    · refine ⟨?_, Or.inl ⟨rfl, hbr, by rw [← hm]; omega, ?_⟩⟩
      · exact (((hS.w (fun a h => Or.inr h)).uC (S := TS p c) (Or.inl (Or.inr (Or.inl rfl))) _ _ _ _).uC (Or.inl (Or.inr (Or.inr rfl))) _ _ _ _).uI (Or.inl (Or.inl rfl)) _ _
      · rw [← hm]
        refine ⟨?_, ?_, fun k t ht => ?_⟩
        · rw [mI_uI_eq]; simp; omega
        · simp; omega
        · rw [mI_uI_ne (by omega), mI_uI_ne (by omega), mI_uC_ne (x := p + 1) (b := p + 2) (by omega), mI_uC, mI_uC]
          have hts : (L.take s).length = s := by simp; omega
          by_cases hk : k < s
          · rw [List.getElem?_append_left (by omega), List.getElem?_take_of_lt hk] at ht
            have := l3 k t ht
            rw [if_neg (by omega), if_neg (by omega), mI_uC_ne (x := p + 2) (b := p + 1) (by omega), hS.2.2.2 (p + 1) k (by omega), hS.2.2.2 (p + 2) k (by omega)]
            exact this
          · rw [List.getElem?_append_right (by omega), hts] at ht
            have hkR : k - s < R.length := (List.getElem?_eq_some_iff.mp ht).1
            have := hMG (k - s) t ht
            rw [if_pos ⟨rfl, by omega, by omega⟩, if_pos ⟨rfl, by omega, by omega⟩, mI_uC_ne (x := c + 79) (b := p + 1) (by omega)]
            exact this
    · exact ⟨hS.w (fun a h => Or.inr h), Or.inr ⟨rfl, Or.inr (by rw [← hm]; omega)⟩⟩
  · have q1 := (hS.1 p).trans p1; have q2 := (hS.1 (p + 1)).trans p2; have q3 := (hS.1 (p + 2)).trans p3; have q4 := (hS.2.1 (p + 1)).trans p4; have q5 := (hS.2.1 (p + 2)).trans p5; have q6 := (hS.2.2.1 p 0).trans p6; have q7 := (hS.2.2.1 p 1).trans p7
    have u1 := (hS.1 m).trans m1; have u2 := (hS.1 (m + 1)).trans m2; have u3 := (hS.1 (m + 2)).trans m3; have u4 := (hS.2.1 (m + 1)).trans m4; have u5 := (hS.2.1 (m + 2)).trans m5; have u6 := (hS.2.2.1 m 0).trans m6; have u7 := (hS.2.2.1 m 1).trans m7
    have w1 := (hS.1 c).trans hc; have w4 := (hS.2.2.2 c 4 (by omega)).trans hc4; have w6 := (hS.2.2.1 c 6).trans hc6; have w7 := (hS.2.2.1 c 7).trans hc7
    have w8 := (hS.1 (c + 78)).trans hc8.1; have w9 := (hS.2.1 (c + 78)).trans hc8.2; have w10 := (hS.1 (c + 79)).trans hc9.1; have w11 := (hS.2.1 (c + 79)).trans hc9.2
    have x1 := (hS.2.2.2 p 2 (by omega)).trans l1; have x2 := (hS.2.2.2 m 2 (by omega)).trans b1
    have nz : ∀ (i' j' : Nat) (v q : Int) (y9 y10 y11 : Option AV), (L.length - i') + (B.length - j') < d → s ≤ i' → i' ≤ L.length → j' ≤ B.length → i + j < i' + j' → (R ++ [(v, q)]) ++ mrg o n f (L.drop i') (B.drop j') = mrg o n f (L.drop s) B → G X y_Completion_takeAway (mZ M, mS M, 0, 0) 29 [some (aR (some c)), some (aR (some p)), some (aI s), some (aR (some m)), some (aI f), some (aI n), some (aI i'), some (aI j'), some (aI ((s + R.length : Nat) + 1 : Int)), y9, y10, y11] [] (uI (uI M1 (c + 79) (s + R.length) q) (c + 78) (s + R.length) v) (TK M p c s o n f L B) := by
      intro i' j' v q y9 y10 y11 g1 g2 g3 g4 g5 g6
      have h9 := ih _ g1 i' j' (R ++ [(v, q)]) (uI (uI M1 (c + 79) (s + R.length) q) (c + 78) (s + R.length) v) y9 y10 y11 rfl g2 g3 g4 (by simp; omega) ((hS.uI (Or.inr rfl) _ _).uI (Or.inl rfl) _ _) (MG_push hMG) g6
      have e9 : ((s + (R ++ [(v, q)]).length : Nat) : Int) = ((s + R.length : Nat) : Int) + 1 := by simp; omega
      rw [e9] at h9
      exact h9
    have zr : ∀ (i' j' : Nat) (v q : Int) (y9 y10 y11 : Option AV), (L.length - i') + (B.length - j') < d → s ≤ i' → i' ≤ L.length → j' ≤ B.length → i + j < i' + j' → R ++ mrg o n f (L.drop i') (B.drop j') = mrg o n f (L.drop s) B → G X y_Completion_takeAway (mZ M, mS M, 0, 0) 29 [some (aR (some c)), some (aR (some p)), some (aI s), some (aR (some m)), some (aI f), some (aI n), some (aI i'), some (aI j'), some (aI (s + R.length : Nat)), y9, y10, y11] [] (uI (uI M1 (c + 79) (s + R.length) q) (c + 78) (s + R.length) v) (TK M p c s o n f L B) := by
      intro i' j' v q y9 y10 y11 g1 g2 g3 g4 g5 g6
      exact ih _ g1 i' j' R _ y9 y10 y11 rfl g2 g3 g4 (by omega) ((hS.uI (Or.inr rfl) _ _).uI (Or.inl rfl) _ _) (MG_zero hMG) g6
    clear ih
    by_cases hi2 : i < L.length
    · obtain ⟨a, ha⟩ : ∃ a, L[i]? = some a := ⟨_, List.getElem?_eq_getElem hi2⟩
      have ya := l3 i a ha
      have ya1 := (hS.2.2.2 (p + 1) i (by omega)).trans ya.1
      have ya2 := (hS.2.2.2 (p + 2) i (by omega)).trans ya.2
      have oka := okL a (List.mem_of_getElem? ha)
      have hpr := oka.2
      have hdi : L.drop i = a :: L.drop (i + 1) := by rw [List.drop_eq_getElem_cons hi2]; congr 1; exact (List.getElem?_eq_some_iff.mp ha).2
      have rna := rk_nn (o := o) hpr
      have c1 : ¬ ((L.length : Int) ≤ (i : Int)) := by omega
      have c1b : (i : Int) < (L.length : Int) := by omega
      by_cases hj2 : j < B.length
      · obtain ⟨b, hb⟩ : ∃ b, B[j]? = some b := ⟨_, List.getElem?_eq_getElem hj2⟩
        have yb := b3 j b hb
        have yb1 := (hS.2.2.2 (m + 1) j (by omega)).trans yb.1
        have yb2 := (hS.2.2.2 (m + 2) j (by omega)).trans yb.2
        have okb := okB b (List.mem_of_getElem? hb)
        have hprb := hBf b (List.mem_of_getElem? hb)
        have hdj : B.drop j = b :: B.drop (j + 1) := by rw [List.drop_eq_getElem_cons hj2]; congr 1; exact (List.getElem?_eq_some_iff.mp hb).2
        have c2 : ¬ ((B.length : Int) ≤ (j : Int)) := by omega
        have hmul : 0 ≤ n * b.1 ∧ n * b.1 ≤ 900 := ⟨Int.mul_nonneg (by omega) (by have := okb.1; omega), Int.mul_le_mul (a := n) (b := b.1) (c := 30) (d := 30) (by omega) (by have := okb.1; omega) (by have := okb.1; omega) (by omega)⟩
        have oprb := hprb
        have opb := okb.2
        have opa := oka.1
        unfold isPr at oprb opb
        by_cases k1 : rk o (b.2 + f) < rk o a.2
        · have k2 : ¬ rk o a.2 < rk o (b.2 + f) := by omega
          have c5 : ¬ a.1 = 0 := by omega
          refine G_w (pfb_ok X) LK_52 (fun i => i == 29) 100 _ _ _ _ ?_
          simp only [f_0, f_s, f_iconst, f_bipush, f_sipush, f_ldc, f_ldc_w, f_ldc2_w, f_ldI, f_ldL, f_ldA, f_iload, f_iload_n, f_lload, f_lload_n, f_aload, f_aload_n, f_istore, f_istore_n, f_lstore, f_lstore_n, f_astore, f_astore_n, f_iinc, f_icI, f_iadd, f_isub, f_imul, f_idiv, f_irem, f_iand, f_ior, f_ixor, f_ishl, f_ishr, f_iushr, f_i2l, f_i2b, f_i2s, f_ladd, f_lmul, f_lcmp, f_dupI, f_dupR, f_dup2, f_pop, f_goto, f_if, f_icmp, f_tab, f_ts0, f_ts1, f_getI, f_getZ, f_getR, f_putI, f_putR, f_gets, f_iald, f_bald, f_aald, f_iast, f_bast, f_aast, f_alen, f_new, f_newa, f_anew, f_virt, f_stat0, f_stat1, f_spec0, f_spec1, f_spec9, f_copy, f_max, f_min, f_cV1, f_cV0, f_cS1, f_cS0, f_iret, f_lret, f_vret, f_kG, pf0, cIg, inR, lget, lset, lset2, clr, entL, cnd, psh, catS, tsw, List.take_succ_cons, List.take_zero, List.drop_succ_cons, List.drop_zero, List.reverse_cons, List.reverse_nil, List.nil_append, List.cons_append, List.length_cons, List.length_nil, List.replicate_succ, List.replicate_zero, Nat.reduceAdd, Nat.reduceSub, Nat.reduceLeDiff, Nat.reduceLT, Nat.reduceEqDiff, Nat.reduceMul, Nat.zero_add, Nat.add_zero, Nat.le_refl, Nat.zero_le, Int.reduceEq, Int.reduceToNat, Int.toNat_natCast, Int.reduceNeg, Int.reduceAdd, Int.reduceSub, Int.reduceMul, Int.reduceLT, Int.reduceLE, Int.reduceDiv, Int.reduceMod, Bool.false_eq_true, ↓reduceIte, true_and, and_true, implies_true, forall_const, true_or, or_true, or_false, false_or, not_true_eq_false, not_false_eq_true, false_implies, Prod.mk.injEq, Fin.val_zero, Fin.val_one, Fin.isValue, Fin.reduceFinMk, Fin.val_two, mR_uI, mK_uI, mN_uI, mI_uR, mK_uR, mN_uR, mR_uC, mK_uC, mN_uC, Option.some.injEq, Sum.inl.injEq, Sum.inr.injEq, decide_true, decide_false, Bool.or_false, Bool.false_or, Bool.or_true, Bool.true_or, Nat.reduceBEq, beq_self_eq_true, show tb 52 = tb_52 from rfl, tb_52, tb_52_0, tb_52_1, tb_52_2, tb_52_3, tb_52_4, pfb, pfb_b, pfb_c, pfb_v, pfa_b, pfa_c, pfa_v, q1, q2, q3, q4, q5, q6, q7, u1, u2, u3, u4, u5, u6, u7, w1, w4, w6, w7, w8, w9, w10, w11, x1, x2, ya1, ya2, yb1, yb2, hpr, hprb, c1, c1b, c2, k1, k2, c5, mI_uI_ne (show p + 1 ≠ c + 79 by omega)]
          (repeat' (first | with_reducible apply And.intro | with_reducible intro _)) <;> (try omega)
          refine nz (i + 1) j a.1 a.2 _ _ _ (by omega) (by omega) (by omega) (by omega) (by omega) ?_
          rw [← hm, hdi, hdj, mrg, if_pos k1, List.append_assoc, ← hdj]
          rfl
        · by_cases k2 : rk o a.2 < rk o (b.2 + f)
          · refine G_w (pfb_ok X) LK_52 (fun i => i == 29) 100 _ _ _ _ ?_
            simp only [f_0, f_s, f_iconst, f_bipush, f_sipush, f_ldc, f_ldc_w, f_ldc2_w, f_ldI, f_ldL, f_ldA, f_iload, f_iload_n, f_lload, f_lload_n, f_aload, f_aload_n, f_istore, f_istore_n, f_lstore, f_lstore_n, f_astore, f_astore_n, f_iinc, f_icI, f_iadd, f_isub, f_imul, f_idiv, f_irem, f_iand, f_ior, f_ixor, f_ishl, f_ishr, f_iushr, f_i2l, f_i2b, f_i2s, f_ladd, f_lmul, f_lcmp, f_dupI, f_dupR, f_dup2, f_pop, f_goto, f_if, f_icmp, f_tab, f_ts0, f_ts1, f_getI, f_getZ, f_getR, f_putI, f_putR, f_gets, f_iald, f_bald, f_aald, f_iast, f_bast, f_aast, f_alen, f_new, f_newa, f_anew, f_virt, f_stat0, f_stat1, f_spec0, f_spec1, f_spec9, f_copy, f_max, f_min, f_cV1, f_cV0, f_cS1, f_cS0, f_iret, f_lret, f_vret, f_kG, pf0, cIg, inR, lget, lset, lset2, clr, entL, cnd, psh, catS, tsw, List.take_succ_cons, List.take_zero, List.drop_succ_cons, List.drop_zero, List.reverse_cons, List.reverse_nil, List.nil_append, List.cons_append, List.length_cons, List.length_nil, List.replicate_succ, List.replicate_zero, Nat.reduceAdd, Nat.reduceSub, Nat.reduceLeDiff, Nat.reduceLT, Nat.reduceEqDiff, Nat.reduceMul, Nat.zero_add, Nat.add_zero, Nat.le_refl, Nat.zero_le, Int.reduceEq, Int.reduceToNat, Int.toNat_natCast, Int.reduceNeg, Int.reduceAdd, Int.reduceSub, Int.reduceMul, Int.reduceLT, Int.reduceLE, Int.reduceDiv, Int.reduceMod, Bool.false_eq_true, ↓reduceIte, true_and, and_true, implies_true, forall_const, true_or, or_true, or_false, false_or, not_true_eq_false, not_false_eq_true, false_implies, Prod.mk.injEq, Fin.val_zero, Fin.val_one, Fin.isValue, Fin.reduceFinMk, Fin.val_two, mR_uI, mK_uI, mN_uI, mI_uR, mK_uR, mN_uR, mR_uC, mK_uC, mN_uC, Option.some.injEq, Sum.inl.injEq, Sum.inr.injEq, decide_true, decide_false, Bool.or_false, Bool.false_or, Bool.or_true, Bool.true_or, Nat.reduceBEq, beq_self_eq_true, show tb 52 = tb_52 from rfl, tb_52, tb_52_0, tb_52_1, tb_52_2, tb_52_3, tb_52_4, pfb, pfb_b, pfb_c, pfb_v, pfa_b, pfa_c, pfa_v, q1, q2, q3, q4, q5, q6, q7, u1, u2, u3, u4, u5, u6, u7, w1, w4, w6, w7, w8, w9, w10, w11, x1, x2, ya1, ya2, yb1, yb2, hpr, hprb, c1, c1b, c2, k1, k2, mI_uI_ne (show m + 1 ≠ c + 79 by omega)]
            (repeat' (first | with_reducible apply And.intro | with_reducible intro _)) <;> (try omega)
            · rename_i h0
              refine zr i (j + 1) _ _ _ _ _ (by omega) (by omega) (by omega) (by omega) (by omega) ?_
              rw [← hm, hdj, hdi, mrg, if_neg k1, if_pos k2, cns, if_pos h0]
            · rename_i h0
              refine nz i (j + 1) _ _ _ _ _ (by omega) (by omega) (by omega) (by omega) (by omega) ?_
              rw [← hm, hdj, hdi, mrg, if_neg k1, if_pos k2, cns, if_neg h0, List.append_assoc]
              rfl
          · refine G_w (pfb_ok X) LK_52 (fun i => i == 29) 100 _ _ _ _ ?_
            simp only [f_0, f_s, f_iconst, f_bipush, f_sipush, f_ldc, f_ldc_w, f_ldc2_w, f_ldI, f_ldL, f_ldA, f_iload, f_iload_n, f_lload, f_lload_n, f_aload, f_aload_n, f_istore, f_istore_n, f_lstore, f_lstore_n, f_astore, f_astore_n, f_iinc, f_icI, f_iadd, f_isub, f_imul, f_idiv, f_irem, f_iand, f_ior, f_ixor, f_ishl, f_ishr, f_iushr, f_i2l, f_i2b, f_i2s, f_ladd, f_lmul, f_lcmp, f_dupI, f_dupR, f_dup2, f_pop, f_goto, f_if, f_icmp, f_tab, f_ts0, f_ts1, f_getI, f_getZ, f_getR, f_putI, f_putR, f_gets, f_iald, f_bald, f_aald, f_iast, f_bast, f_aast, f_alen, f_new, f_newa, f_anew, f_virt, f_stat0, f_stat1, f_spec0, f_spec1, f_spec9, f_copy, f_max, f_min, f_cV1, f_cV0, f_cS1, f_cS0, f_iret, f_lret, f_vret, f_kG, pf0, cIg, inR, lget, lset, lset2, clr, entL, cnd, psh, catS, tsw, List.take_succ_cons, List.take_zero, List.drop_succ_cons, List.drop_zero, List.reverse_cons, List.reverse_nil, List.nil_append, List.cons_append, List.length_cons, List.length_nil, List.replicate_succ, List.replicate_zero, Nat.reduceAdd, Nat.reduceSub, Nat.reduceLeDiff, Nat.reduceLT, Nat.reduceEqDiff, Nat.reduceMul, Nat.zero_add, Nat.add_zero, Nat.le_refl, Nat.zero_le, Int.reduceEq, Int.reduceToNat, Int.toNat_natCast, Int.reduceNeg, Int.reduceAdd, Int.reduceSub, Int.reduceMul, Int.reduceLT, Int.reduceLE, Int.reduceDiv, Int.reduceMod, Bool.false_eq_true, ↓reduceIte, true_and, and_true, implies_true, forall_const, true_or, or_true, or_false, false_or, not_true_eq_false, not_false_eq_true, false_implies, Prod.mk.injEq, Fin.val_zero, Fin.val_one, Fin.isValue, Fin.reduceFinMk, Fin.val_two, mR_uI, mK_uI, mN_uI, mI_uR, mK_uR, mN_uR, mR_uC, mK_uC, mN_uC, Option.some.injEq, Sum.inl.injEq, Sum.inr.injEq, decide_true, decide_false, Bool.or_false, Bool.false_or, Bool.or_true, Bool.true_or, Nat.reduceBEq, beq_self_eq_true, show tb 52 = tb_52 from rfl, tb_52, tb_52_0, tb_52_1, tb_52_2, tb_52_3, tb_52_4, pfb, pfb_b, pfb_c, pfb_v, pfa_b, pfa_c, pfa_v, q1, q2, q3, q4, q5, q6, q7, u1, u2, u3, u4, u5, u6, u7, w1, w4, w6, w7, w8, w9, w10, w11, x1, x2, ya1, ya2, yb1, yb2, hpr, hprb, c1, c1b, c2, k1, k2, mI_uI_ne (show m + 1 ≠ c + 79 by omega), mI_uI_ne (show p + 1 ≠ c + 79 by omega)]
            (repeat' (first | with_reducible apply And.intro | with_reducible intro _)) <;> (try omega)
            · rename_i h0
              refine zr (i + 1) (j + 1) _ _ _ _ _ (by omega) (by omega) (by omega) (by omega) (by omega) ?_
              rw [← hm, hdj, hdi, mrg, if_neg k1, if_neg k2, cns, if_pos h0]
            · rename_i h0
              refine nz (i + 1) (j + 1) _ _ _ _ _ (by omega) (by omega) (by omega) (by omega) (by omega) ?_
              rw [← hm, hdj, hdi, mrg, if_neg k1, if_neg k2, cns, if_neg h0, List.append_assoc]
              rfl
      · have hj3 : B.drop j = [] := List.drop_eq_nil_of_le (by omega)
        have c2 : ((B.length : Int) ≤ (j : Int)) := by omega
        have c3 : ¬ (rk o a.2 < -1) := by omega
        have c4 : (-1 : Int) < rk o a.2 := by omega
        have c5 : ¬ a.1 = 0 := by have := oka.1; omega
        refine G_w (pfb_ok X) LK_52 (fun i => i == 29) 100 _ _ _ _ ?_
        simp only [f_0, f_s, f_iconst, f_bipush, f_sipush, f_ldc, f_ldc_w, f_ldc2_w, f_ldI, f_ldL, f_ldA, f_iload, f_iload_n, f_lload, f_lload_n, f_aload, f_aload_n, f_istore, f_istore_n, f_lstore, f_lstore_n, f_astore, f_astore_n, f_iinc, f_icI, f_iadd, f_isub, f_imul, f_idiv, f_irem, f_iand, f_ior, f_ixor, f_ishl, f_ishr, f_iushr, f_i2l, f_i2b, f_i2s, f_ladd, f_lmul, f_lcmp, f_dupI, f_dupR, f_dup2, f_pop, f_goto, f_if, f_icmp, f_tab, f_ts0, f_ts1, f_getI, f_getZ, f_getR, f_putI, f_putR, f_gets, f_iald, f_bald, f_aald, f_iast, f_bast, f_aast, f_alen, f_new, f_newa, f_anew, f_virt, f_stat0, f_stat1, f_spec0, f_spec1, f_spec9, f_copy, f_max, f_min, f_cV1, f_cV0, f_cS1, f_cS0, f_iret, f_lret, f_vret, f_kG, pf0, cIg, inR, lget, lset, lset2, clr, entL, cnd, psh, catS, tsw, List.take_succ_cons, List.take_zero, List.drop_succ_cons, List.drop_zero, List.reverse_cons, List.reverse_nil, List.nil_append, List.cons_append, List.length_cons, List.length_nil, List.replicate_succ, List.replicate_zero, Nat.reduceAdd, Nat.reduceSub, Nat.reduceLeDiff, Nat.reduceLT, Nat.reduceEqDiff, Nat.reduceMul, Nat.zero_add, Nat.add_zero, Nat.le_refl, Nat.zero_le, Int.reduceEq, Int.reduceToNat, Int.toNat_natCast, Int.reduceNeg, Int.reduceAdd, Int.reduceSub, Int.reduceMul, Int.reduceLT, Int.reduceLE, Int.reduceDiv, Int.reduceMod, Bool.false_eq_true, ↓reduceIte, true_and, and_true, implies_true, forall_const, true_or, or_true, or_false, false_or, not_true_eq_false, not_false_eq_true, false_implies, Prod.mk.injEq, Fin.val_zero, Fin.val_one, Fin.isValue, Fin.reduceFinMk, Fin.val_two, mR_uI, mK_uI, mN_uI, mI_uR, mK_uR, mN_uR, mR_uC, mK_uC, mN_uC, Option.some.injEq, Sum.inl.injEq, Sum.inr.injEq, decide_true, decide_false, Bool.or_false, Bool.false_or, Bool.or_true, Bool.true_or, Nat.reduceBEq, beq_self_eq_true, show tb 52 = tb_52 from rfl, tb_52, tb_52_0, tb_52_1, tb_52_2, tb_52_3, tb_52_4, pfb, pfb_b, pfb_c, pfb_v, pfa_b, pfa_c, pfa_v, q1, q2, q3, q4, q5, q6, q7, u1, w1, w4, w6, w7, w8, w9, w10, w11, x1, x2, ya1, ya2, hpr, c1, c1b, c2, c3, c4, c5, mI_uI_ne (show p + 1 ≠ c + 79 by omega)]
        refine ⟨by omega, by omega, by omega, by omega, by omega, by omega, by omega, nz (i + 1) j a.1 a.2 _ _ _ (by omega) (by omega) (by omega) (by omega) (by omega) ?_⟩
        rw [← hm, hdi, hj3, mrg, List.append_assoc]
        rfl
    · have hj2 : j < B.length := by omega
      obtain ⟨b, hb⟩ : ∃ b, B[j]? = some b := ⟨_, List.getElem?_eq_getElem hj2⟩
      have yb := b3 j b hb
      have yb1 := (hS.2.2.2 (m + 1) j (by omega)).trans yb.1
      have yb2 := (hS.2.2.2 (m + 2) j (by omega)).trans yb.2
      have okb := okB b (List.mem_of_getElem? hb)
      have hprb := hBf b (List.mem_of_getElem? hb)
      have hdj : B.drop j = b :: B.drop (j + 1) := by rw [List.drop_eq_getElem_cons hj2]; congr 1; exact (List.getElem?_eq_some_iff.mp hb).2
      have hi3 : L.drop i = [] := List.drop_eq_nil_of_le (by omega)
      have rnb := rk_nn (o := o) hprb
      have c1 : ((L.length : Int) ≤ (i : Int)) := by omega
      have c1b : ¬ (i : Int) < (L.length : Int) := by omega
      have c2 : ¬ ((B.length : Int) ≤ (j : Int)) := by omega
      have c3 : (-1 : Int) < rk o (b.2 + f) := by omega
      have c4 : ¬ rk o (b.2 + f) < -1 := by omega
      have hmul : 0 ≤ n * b.1 ∧ n * b.1 ≤ 900 := ⟨Int.mul_nonneg (by omega) (by have := okb.1; omega), Int.mul_le_mul (a := n) (b := b.1) (c := 30) (d := 30) (by omega) (by have := okb.1; omega) (by have := okb.1; omega) (by omega)⟩
      have oprb := hprb
      have opb := okb.2
      unfold isPr at oprb opb
      refine G_w (pfb_ok X) LK_52 (fun i => i == 29) 100 _ _ _ _ ?_
      simp only [f_0, f_s, f_iconst, f_bipush, f_sipush, f_ldc, f_ldc_w, f_ldc2_w, f_ldI, f_ldL, f_ldA, f_iload, f_iload_n, f_lload, f_lload_n, f_aload, f_aload_n, f_istore, f_istore_n, f_lstore, f_lstore_n, f_astore, f_astore_n, f_iinc, f_icI, f_iadd, f_isub, f_imul, f_idiv, f_irem, f_iand, f_ior, f_ixor, f_ishl, f_ishr, f_iushr, f_i2l, f_i2b, f_i2s, f_ladd, f_lmul, f_lcmp, f_dupI, f_dupR, f_dup2, f_pop, f_goto, f_if, f_icmp, f_tab, f_ts0, f_ts1, f_getI, f_getZ, f_getR, f_putI, f_putR, f_gets, f_iald, f_bald, f_aald, f_iast, f_bast, f_aast, f_alen, f_new, f_newa, f_anew, f_virt, f_stat0, f_stat1, f_spec0, f_spec1, f_spec9, f_copy, f_max, f_min, f_cV1, f_cV0, f_cS1, f_cS0, f_iret, f_lret, f_vret, f_kG, pf0, cIg, inR, lget, lset, lset2, clr, entL, cnd, psh, catS, tsw, List.take_succ_cons, List.take_zero, List.drop_succ_cons, List.drop_zero, List.reverse_cons, List.reverse_nil, List.nil_append, List.cons_append, List.length_cons, List.length_nil, List.replicate_succ, List.replicate_zero, Nat.reduceAdd, Nat.reduceSub, Nat.reduceLeDiff, Nat.reduceLT, Nat.reduceEqDiff, Nat.reduceMul, Nat.zero_add, Nat.add_zero, Nat.le_refl, Nat.zero_le, Int.reduceEq, Int.reduceToNat, Int.toNat_natCast, Int.reduceNeg, Int.reduceAdd, Int.reduceSub, Int.reduceMul, Int.reduceLT, Int.reduceLE, Int.reduceDiv, Int.reduceMod, Bool.false_eq_true, ↓reduceIte, true_and, and_true, implies_true, forall_const, true_or, or_true, or_false, false_or, not_true_eq_false, not_false_eq_true, false_implies, Prod.mk.injEq, Fin.val_zero, Fin.val_one, Fin.isValue, Fin.reduceFinMk, Fin.val_two, mR_uI, mK_uI, mN_uI, mI_uR, mK_uR, mN_uR, mR_uC, mK_uC, mN_uC, Option.some.injEq, Sum.inl.injEq, Sum.inr.injEq, decide_true, decide_false, Bool.or_false, Bool.false_or, Bool.or_true, Bool.true_or, Nat.reduceBEq, beq_self_eq_true, show tb 52 = tb_52 from rfl, tb_52, tb_52_0, tb_52_1, tb_52_2, tb_52_3, tb_52_4, pfb, pfb_b, pfb_c, pfb_v, pfa_b, pfa_c, pfa_v, q1, q2, q3, q4, q5, q6, q7, u1, u2, u3, u4, u5, u6, u7, w1, w4, w6, w7, w8, w9, w10, w11, x1, x2, yb1, yb2, hprb, c1, c1b, c2, c3, c4, mI_uI_ne (show m + 1 ≠ c + 79 by omega)]
      (repeat' (first | with_reducible apply And.intro | with_reducible intro _)) <;> (try omega)
      · rename_i h0
        refine zr i (j + 1) _ _ _ _ _ (by omega) (by omega) (by omega) (by omega) (by omega) ?_
        rw [← hm, hdj, hi3, mrg, cns, if_pos h0]
      · rename_i h0
        refine nz i (j + 1) _ _ _ _ _ (by omega) (by omega) (by omega) (by omega) (by omega) ?_
        rw [← hm, hdj, hi3, mrg, cns, if_neg h0, List.append_assoc]
        rfl
