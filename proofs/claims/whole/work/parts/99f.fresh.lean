/-! both objects as they are made -/
def Mz (L : Nat) (f : Nat → Int) : Mem := (fun a k => if a = BIG then ([10, 5, 0] : List Int).getD k 0 else if a = BIG + 1 then ([1024, 32, 1] : List Int).getD k 0 else if a = BIG + 2 then ([0, 37, 1024, 2113, 5218] : List Int).getD k 0 else if a = BIG + 3 then f k else 0, fun _ _ => none, fun a => if BIG ≤ a ∧ a < BIG + 4 then 25 else 99, fun a => if a < BIG then 0 else if a < BIG + 4 then ([3, 3, 5, L] : List Nat).getD (a - BIG) 0 else 0, 0, 0)
theorem Mz_i (L : Nat) (f : Nat → Int) (a k : Nat) : mI (Mz L f) a k = if a = BIG then ([10, 5, 0] : List Int).getD k 0 else if a = BIG + 1 then ([1024, 32, 1] : List Int).getD k 0 else if a = BIG + 2 then ([0, 37, 1024, 2113, 5218] : List Int).getD k 0 else if a = BIG + 3 then f k else 0 := rfl
theorem Mz_k (L : Nat) (f : Nat → Int) (a : Nat) : mK (Mz L f) a = if BIG ≤ a ∧ a < BIG + 4 then 25 else 99 := rfl
theorem Mz_n (L : Nat) (f : Nat → Int) (a : Nat) : mN (Mz L f) a = if a < BIG then 0 else if a < BIG + 4 then ([3, 3, 5, L] : List Nat).getD (a - BIG) 0 else 0 := rfl
def s0 : St := (fun _ => [], fun _ => (-1, 0, fun _ => 0), 0)
theorem fr_shp {L : Nat} {f : Nat → Int} {M : Mem} (h : Cn M 536 (fun a => if a < 536 then LC a else cl (Mz L f) a)) : Shp M := by
  have big : 900000 < BIG := Nat.le_of_ble_eq_true rfl
  have oi : ∀ a j, 536 ≤ a → mI M a j = mI (Mz L f) a j := fun a j ha => by rw [h.i, if_neg (by omega)]; rfl
  have ok9 : ∀ a, 536 ≤ a → mK M a = mK (Mz L f) a := fun a ha => by rw [h.k, if_neg (by omega)]; rfl
  have on : ∀ a, 536 ≤ a → mN M a = mN (Mz L f) a := fun a ha => by rw [h.l, if_neg (by omega)]; rfl
  refine ⟨fun a => ?_, ⟨L, fun a => ?_⟩, fun a k hd => ?_, ?_⟩
  · by_cases ha : a < 536
    · rw [h.k, if_pos ha]; rfl
    · have hSK : SK a = if a < BIG then 99 else if a < BIG + 4 then 25 else 99 := by
        unfold SK
        rw [if_neg (by omega), if_neg (by omega), if_neg (by omega), if_neg (by omega), if_neg (by omega), if_neg (by omega), if_neg (by omega), if_neg (by omega)]
      rw [ok9 a (by omega), Mz_k, hSK]
      by_cases h1 : a < BIG
      · rw [if_pos h1, if_neg (by omega)]
      · by_cases h2 : a < BIG + 4
        · rw [if_neg h1, if_pos h2, if_pos ⟨by omega, h2⟩]
        · rw [if_neg h1, if_neg h2, if_neg (by omega)]
  · by_cases ha : a < 536
    · rw [h.l, if_pos ha]
      unfold SN
      rw [if_pos (by omega)]
      rfl
    · rw [on a (by omega), Mz_n]
      unfold SN
      by_cases h1 : a < BIG
      · rw [if_pos h1, if_pos h1]
        unfold SN0
        rw [if_neg (by omega), if_neg (by omega), if_neg (by omega), if_neg (by omega), if_neg (by omega), if_neg (by omega), if_neg (by omega), List.getD_eq_getElem?_getD, List.getElem?_eq_none (by show 15 ≤ a - 521; omega)]
        rfl
      · rw [if_neg h1, if_neg h1]
  · by_cases ha : a < 536
    · rw [h.r, if_pos ha]
      show SRR a k = SR a k
      unfold dyn at hd
      unfold SRR
      rw [if_neg (by omega), if_neg (by omega), if_neg (by omega)]
    · rw [h.r, if_neg ha]
      show none = SR a k
      have hs := SK_big (a := a) (by omega)
      unfold SR
      rw [if_neg (by omega), if_neg (by omega), if_neg (by omega), if_neg (by omega), if_neg (by omega), if_neg (by omega), if_neg (by omega), if_neg (by omega)]
  · have k0 : mK M BIG = 25 := by rw [ok9 _ (by omega), Mz_k, if_pos (by omega)]
    have k1 : mK M (BIG + 1) = 25 := by rw [ok9 _ (by omega), Mz_k, if_pos (by omega)]
    have k2 : mK M (BIG + 2) = 25 := by rw [ok9 _ (by omega), Mz_k, if_pos (by omega)]
    have n0 : mN M BIG = 3 := by rw [on _ (by omega), Mz_n, if_neg (by omega), if_pos (by omega), Nat.sub_self]; rfl
    have n1 : mN M (BIG + 1) = 3 := by rw [on _ (by omega), Mz_n, if_neg (by omega), if_pos (by omega), show BIG + 1 - BIG = 1 by omega]; rfl
    have n2 : mN M (BIG + 2) = 5 := by rw [on _ (by omega), Mz_n, if_neg (by omega), if_pos (by omega), show BIG + 2 - BIG = 2 by omega]; rfl
    have i0 : ∀ j, mI M BIG j = ([10, 5, 0] : List Int).getD j 0 := fun j => by rw [oi _ _ (by omega), Mz_i, if_pos rfl]
    have i1 : ∀ j, mI M (BIG + 1) j = ([1024, 32, 1] : List Int).getD j 0 := fun j => by rw [oi _ _ (by omega), Mz_i, if_neg (by omega), if_pos rfl]
    have i2 : ∀ j, mI M (BIG + 2) j = ([0, 37, 1024, 2113, 5218] : List Int).getD j 0 := fun j => by rw [oi _ _ (by omega), Mz_i, if_neg (by omega), if_neg (by omega), if_pos rfl]
    exact ⟨k0, n0, i0 0, i0 1, i0 2, k1, n1, i1 0, i1 1, i1 2, k2, n2, i2 0, i2 1, i2 2, i2 3, i2 4⟩
theorem fr_ra {M : Mem} {r n : Nat} (hs : Shp M) (hr : ∀ a k, a < 536 → mR M a k = SRR a k) (h : okRw r n) : RA M r n ((List.range n).map (fun i => r + 2 + 3 * i)) := by
  have big : 900000 < BIG := Nat.le_of_ble_eq_true rfl
  obtain ⟨f1, f2, f3, f4, f5, f6, f7, f8, f9⟩ := row_f h
  refine ⟨(hs.k r).trans f1, ?_, (hs.k _).trans f3, ?_, by rw [List.length_map, List.length_range], fun j q hj => ?_, fun q hq => ?_, ?_⟩
  · rw [hr r 0 (by omega), SRR_o (Or.inr (Or.inr (Or.inl f1)))]; rfl
  · obtain ⟨L, hL⟩ := hs.2.1
    rw [hL]; unfold SN; rw [if_pos (by omega)]; exact f4
  · rw [List.getElem?_map] at hj
    by_cases hjn : j < n
    · rw [List.getElem?_range hjn] at hj
      cases hj
      rw [hr (r + 1) j (by omega), f6, if_pos hjn]
    · rw [List.getElem?_eq_none (by rw [List.length_range]; omega)] at hj
      cases hj
  · obtain ⟨i, hi, rfl⟩ := List.mem_map.mp hq
    exact hs.p (f5 i (List.mem_range.mp hi))
  · exact List.pairwise_map.mpr (List.pairwise_lt_range.imp (fun h => by omega))
theorem fr_cw {M : Mem} {c : Nat} (hs : Shp M) (hr : ∀ a k, a < 536 → mR M a k = SRR a k) (hi : mI M c 4 = 0) (h : c = 361 ∨ c = 441) : CW M c 0 ((List.range 24).map (fun i => c + 1 + 2 + 3 * i)) ((List.range 100).map (fun i => 59 + 2 + 3 * i)) := by
  have big : 900000 < BIG := Nat.le_of_ble_eq_true rfl
  obtain ⟨f1, f2, f3, f4, f5, f6, f7, f8⟩ := cmp_f h
  obtain ⟨L, hL⟩ := hs.2.1
  have hn : ∀ a, a < 536 → mN M a = SN0 a := fun a ha => by rw [hL]; unfold SN; rw [if_pos (by omega)]
  have hc : ∀ k, mR M c k = SRR c k := fun k => hr c k (by omega)
  refine ⟨hs.2.2.2, h, ⟨(hs.k c).trans f1, ?_, ?_, ?_, ?_, ?_, ⟨(hs.k _).trans f5, (hn _ (by omega)).trans f6⟩, ⟨(hs.k _).trans f7, (hn _ (by omega)).trans f8⟩⟩, hi, by omega, hs.p f4, fun q hq => ?_, fun q hq => ?_⟩
  · rw [hc, SRR_c f1]; rfl
  · rw [hc, SRR_c f1]; rfl
  · rw [hc, SRR_c f1]; rfl
  · rw [hc, SRR_c f1]; rfl
  · rw [hc, SRR_c f1]; rfl
  · obtain ⟨i, hi9, rfl⟩ := List.mem_map.mp hq
    have := List.mem_range.mp hi9
    omega
  · obtain ⟨i, hi9, rfl⟩ := List.mem_map.mp hq
    have := List.mem_range.mp hi9
    omega
theorem fresh {L : Nat} {f : Nat → Int} {M : Mem} (h : Cn M 536 (fun a => if a < 536 then LC a else cl (Mz L f) a)) : LI M L f s0 := by
  have big : 900000 < BIG := Nat.le_of_ble_eq_true rfl
  have hs := fr_shp h
  have hr : ∀ a k, a < 536 → mR M a k = SRR a k := fun a k ha => by rw [h.r, if_pos ha]; rfl
  have hi : ∀ a j, a < 536 → mI M a j = SI a j := fun a j ha => by rw [h.i, if_pos ha]; rfl
  have h0 : ∀ a j, a < 536 → SK a ≠ 1 → SK a ≠ 7 → mI M a j = 0 := fun a j ha h1 h2 => (hi a j ha).trans (SI_0 h1 h2 j)
  have k3 : mI M 0 3 = 0 := h0 0 3 (by omega) (by decide) (by decide)
  refine ⟨⟨?_, fun i hi4 => ?_, h0 0 14 (by omega) (by decide) (by decide)⟩, ⟨hs, fun t ht => ⟨⟨h0 524 t (by omega) (by decide) (by decide), (fun j b hb => by simp [s0] at hb), (by show 0 ≤ 30; omega), (fun b hb => by simp [s0] at hb)⟩, Nat.zero_le _⟩, Or.inl (h0 521 7 (by omega) (by decide) (by decide)), fun h7 => ?_, fun i hi4 => ⟨h0 531 i (by omega) (by decide) (by decide), ⟨by show (-1 : Int) ≤ -1; omega, by show (-1 : Int) ≤ 2; omega⟩, fun h9 => absurd rfl h9⟩, h0 521 24 (by omega) (by decide) (by decide)⟩, ?_, ?_, fun k => ?_⟩
  · unfold CI
    rw [k3]
    refine ⟨hs, fun t ht => ⟨?_, (fun j b hb => by simp [s0] at hb), Nat.zero_le _, (fun b hb => by simp [s0] at hb)⟩, ⟨_, _, _, 0, 0, fr_cw hs hr (h0 361 4 (by omega) (by decide) (by decide)) (Or.inl rfl), fr_cw hs hr (h0 441 4 (by omega) (by decide) (by decide)) (Or.inr rfl), fr_ra hs hr (Or.inr ⟨Or.inl rfl, rfl⟩), fr_ra hs hr (Or.inr ⟨Or.inr rfl, rfl⟩), fr_ra hs hr (Or.inl ⟨rfl, rfl⟩)⟩, by omega, fun h9 => absurd (kb0 0 (by omega)) h9, fun h9 => absurd (kb0 1 (by omega)) h9, fun h9 => absurd (kb0 2 (by omega)) h9, fun h9 => absurd (kb0 3 (by omega)) h9, fun j hj h9 => absurd (kb0 (4 + j) (by omega)) h9⟩
    obtain ⟨g1, g2, g3, g4⟩ := txt_f t ht
    rw [hi _ _ (by omega), SI, if_neg (fun h9 => by omega), if_neg (fun h9 => by omega)]
    rfl
  · obtain ⟨g1, g2, g3, g4⟩ := sht_f i hi4
    have e1 : mI M (51 + 2 * i) 1 = -1 := by rw [hi _ _ (by omega), SI, if_neg (fun h9 => by omega), if_pos ⟨g1, rfl⟩]
    have e2 : mI M (51 + 2 * i) 2 = 0 := by rw [hi _ _ (by omega), SI, if_neg (fun h9 => by omega), if_neg (fun h9 => by omega)]
    exact ⟨e1, ⟨by show (-1 : Int) ≤ -1; omega, by show (-1 : Int) ≤ 2; omega⟩, by rw [e2]; omega, fun h9 => absurd rfl h9⟩
  · rw [h0 521 7 (by omega) (by decide) (by decide)] at h7
    omega
  · rw [h.k, if_neg (by omega)]
    show mK (Mz L f) (BIG + 3) = 25
    rw [Mz_k, if_pos (by omega)]
  · rw [h.l, if_neg (by omega)]
    show mN (Mz L f) (BIG + 3) = L
    rw [Mz_n, if_neg (by omega), if_pos (by omega), show BIG + 3 - BIG = 3 by omega]
    rfl
  · rw [h.i, if_neg (by omega)]
    show mI (Mz L f) (BIG + 3) k = f k
    rw [Mz_i, if_neg (by omega), if_neg (by omega), if_neg (by omega), if_pos rfl]
set_option maxRecDepth 100000 in
set_option maxHeartbeats 4000000 in
theorem law_entry (X : CX) (hFO : FOK X) (hOC : OCH) (L : Nat) (f : Nat → Int) (hL : L ≤ 3072) (hf : ∀ k, inR (f k)) : G X 0 (0, 0, 600000, 7302249) 0 [some (aR (some (BIG + 3))), none, none, none] [] (Mz L f) (fun r _ => r = some (aI 1)) := by
  have big : 900000 < BIG := Nat.le_of_ble_eq_true rfl
  have hz : mZ (Mz L f) = 0 := rfl
  have hS : mS (Mz L f) = 0 := rfl
  refine G_w (pf0_ok X) LK_0 (fun i => false) 20 _ _ _ _ ?_
  simp only [f_0, f_s, f_iconst, f_bipush, f_sipush, f_ldc, f_ldc_w, f_ldc2_w, f_ldI, f_ldL, f_ldA, f_iload, f_iload_n, f_lload, f_lload_n, f_aload, f_aload_n, f_istore, f_istore_n, f_lstore, f_lstore_n, f_astore, f_astore_n, f_iinc, f_icI, f_iadd, f_isub, f_imul, f_idiv, f_irem, f_iand, f_ior, f_ixor, f_ishl, f_ishr, f_iushr, f_i2l, f_i2b, f_i2s, f_ladd, f_lmul, f_lcmp, f_dupI, f_dupR, f_dup2, f_pop, f_goto, f_if, f_icmp, f_tab, f_ts0, f_ts1, f_getI, f_getZ, f_getR, f_putI, f_putR, f_gets, f_iald, f_bald, f_aald, f_iast, f_bast, f_aast, f_alen, f_new, f_newa, f_anew, f_virt, f_stat0, f_stat1, f_spec0, f_spec1, f_spec9, f_copy, f_max, f_min, f_cV1, f_cV0, f_cS1, f_cS0, f_iret, f_lret, f_vret, f_kG, pf0, cIg, inR, lget, lset, lset2, clr, entL, cnd, psh, catS, tsw, List.take_succ_cons, List.take_zero, List.drop_succ_cons, List.drop_zero, List.reverse_cons, List.reverse_nil, List.nil_append, List.cons_append, List.length_cons, List.length_nil, List.replicate_succ, List.replicate_zero, Nat.reduceAdd, Nat.reduceSub, Nat.reduceLeDiff, Nat.reduceLT, Nat.reduceEqDiff, Nat.reduceMul, Nat.zero_add, Nat.add_zero, Nat.le_refl, Nat.zero_le, Int.reduceEq, Int.reduceToNat, Int.toNat_natCast, Int.reduceNeg, Int.reduceAdd, Int.reduceSub, Int.reduceMul, Int.reduceLT, Int.reduceLE, Int.reduceDiv, Int.reduceMod, Bool.false_eq_true, ↓reduceIte, true_and, and_true, implies_true, forall_const, true_or, or_true, or_false, false_or, not_true_eq_false, not_false_eq_true, false_implies, Prod.mk.injEq, Fin.val_zero, Fin.val_one, Fin.isValue, Fin.reduceFinMk, Fin.val_two, mR_uI, mK_uI, mN_uI, mI_uR, mK_uR, mN_uR, mR_uC, mK_uC, mN_uC, Option.some.injEq, Sum.inl.injEq, Sum.inr.injEq, decide_true, decide_false, Bool.or_false, Bool.false_or, Bool.or_true, Bool.true_or, Nat.reduceBEq, beq_self_eq_true, show tb 0 = tb_0 from rfl, tb_0, tb_0_0, tb_0_1, tb_0_2, tb_0_3, tb_0_4, tb_0_5, tb_0_6, tb_0_7, tb_0_8, tb_0_9, tb_0_10, tb_0_11, tb_0_12, tb_0_13, tb_0_14, tb_0_15, tb_0_16, tb_0_17, tb_0_18, tb_0_19, tb_0_20, tb_0_21, mZ_uN, mS_uN, hz, hS]
  (repeat' (first | with_reducible apply And.intro | with_reducible intro _)) <;> (try omega)
  refine ⟨(520, 12000), ⟨by simp only []; omega, by simp only []; omega⟩, Ev_mono (e_newx X (uN (Mz L f) 0 15) (by rw [mZ_uN, hz]) (by rw [cl_uN, if_pos hz.symm])) (fun q M1 hr z1 s1 => ?_)⟩
  obtain ⟨rfl, hL1⟩ := hr
  simp only [mZ_uN, mS_uN, hz, hS, Nat.reduceAdd, Nat.zero_add] at z1 s1
  simp only [f_kG, psh, Nat.reduceAdd]
  refine G_w (pf0_ok X) LK_0 (fun i => false) 20 _ _ _ _ ?_
  simp only [f_0, f_s, f_iconst, f_bipush, f_sipush, f_ldc, f_ldc_w, f_ldc2_w, f_ldI, f_ldL, f_ldA, f_iload, f_iload_n, f_lload, f_lload_n, f_aload, f_aload_n, f_istore, f_istore_n, f_lstore, f_lstore_n, f_astore, f_astore_n, f_iinc, f_icI, f_iadd, f_isub, f_imul, f_idiv, f_irem, f_iand, f_ior, f_ixor, f_ishl, f_ishr, f_iushr, f_i2l, f_i2b, f_i2s, f_ladd, f_lmul, f_lcmp, f_dupI, f_dupR, f_dup2, f_pop, f_goto, f_if, f_icmp, f_tab, f_ts0, f_ts1, f_getI, f_getZ, f_getR, f_putI, f_putR, f_gets, f_iald, f_bald, f_aald, f_iast, f_bast, f_aast, f_alen, f_new, f_newa, f_anew, f_virt, f_stat0, f_stat1, f_spec0, f_spec1, f_spec9, f_copy, f_max, f_min, f_cV1, f_cV0, f_cS1, f_cS0, f_iret, f_lret, f_vret, f_kG, pf0, cIg, inR, lget, lset, lset2, clr, entL, cnd, psh, catS, tsw, List.take_succ_cons, List.take_zero, List.drop_succ_cons, List.drop_zero, List.reverse_cons, List.reverse_nil, List.nil_append, List.cons_append, List.length_cons, List.length_nil, List.replicate_succ, List.replicate_zero, Nat.reduceAdd, Nat.reduceSub, Nat.reduceLeDiff, Nat.reduceLT, Nat.reduceEqDiff, Nat.reduceMul, Nat.zero_add, Nat.add_zero, Nat.le_refl, Nat.zero_le, Int.reduceEq, Int.reduceToNat, Int.toNat_natCast, Int.reduceNeg, Int.reduceAdd, Int.reduceSub, Int.reduceMul, Int.reduceLT, Int.reduceLE, Int.reduceDiv, Int.reduceMod, Bool.false_eq_true, ↓reduceIte, true_and, and_true, implies_true, forall_const, true_or, or_true, or_false, false_or, not_true_eq_false, not_false_eq_true, false_implies, Prod.mk.injEq, Fin.val_zero, Fin.val_one, Fin.isValue, Fin.reduceFinMk, Fin.val_two, mR_uI, mK_uI, mN_uI, mI_uR, mK_uR, mN_uR, mR_uC, mK_uC, mN_uC, Option.some.injEq, Sum.inl.injEq, Sum.inr.injEq, decide_true, decide_false, Bool.or_false, Bool.false_or, Bool.or_true, Bool.true_or, Nat.reduceBEq, beq_self_eq_true, show tb 0 = tb_0 from rfl, tb_0, tb_0_0, tb_0_1, tb_0_2, tb_0_3, tb_0_4, tb_0_5, tb_0_6, tb_0_7, tb_0_8, tb_0_9, tb_0_10, tb_0_11, tb_0_12, tb_0_13, tb_0_14, tb_0_15, tb_0_16, tb_0_17, tb_0_18, tb_0_19, tb_0_20, tb_0_21, mZ_uN, mS_uN, z1, s1]
  (repeat' (first | with_reducible apply And.intro | with_reducible intro _)) <;> (try omega)
  refine ⟨(14, 5140), ⟨by simp only []; omega, by simp only []; omega⟩, Ev_mono (e_newm X (uN M1 8 25) (by rw [mZ_uN, z1]) (by rw [cl_uN, if_pos z1.symm])) (fun q M2 hr z2 s2 => ?_)⟩
  obtain ⟨rfl, hL2⟩ := hr
  simp only [mZ_uN, mS_uN, z1, Nat.reduceAdd] at z2
  have hcl : Cn M2 536 (fun a => if a < 536 then LC a else cl (Mz L f) a) := by
    refine ⟨z2, fun a => ?_⟩
    show cl M2 a = if a < 536 then LC a else cl (Mz L f) a
    by_cases a1 : 521 ≤ a ∧ a < 536
    · rw [if_pos a1.2]; exact hL2.1 a a1.1 a1.2
    · rw [hL2.2 a a1, cl_uN, if_neg (by omega)]
      by_cases a2 : a < 521
      · rw [if_pos (by omega)]; exact hL1.1 a (by omega) a2
      · rw [if_neg (by omega), hL1.2 a (by omega), cl_uN, if_neg (by omega)]
  have h9 := law_loop X hFO hOC (0, 0, 600000, 7302249) L f hL hf L 0 M2 s0 (by omega) (by omega) (fresh hcl)
  simp only [f_kG, psh, Nat.reduceAdd]
  refine G_w (pf0_ok X) LK_0 (fun i => i == 10) 20 _ _ _ _ ?_
  simp only [f_0, f_s, f_iconst, f_bipush, f_sipush, f_ldc, f_ldc_w, f_ldc2_w, f_ldI, f_ldL, f_ldA, f_iload, f_iload_n, f_lload, f_lload_n, f_aload, f_aload_n, f_istore, f_istore_n, f_lstore, f_lstore_n, f_astore, f_astore_n, f_iinc, f_icI, f_iadd, f_isub, f_imul, f_idiv, f_irem, f_iand, f_ior, f_ixor, f_ishl, f_ishr, f_iushr, f_i2l, f_i2b, f_i2s, f_ladd, f_lmul, f_lcmp, f_dupI, f_dupR, f_dup2, f_pop, f_goto, f_if, f_icmp, f_tab, f_ts0, f_ts1, f_getI, f_getZ, f_getR, f_putI, f_putR, f_gets, f_iald, f_bald, f_aald, f_iast, f_bast, f_aast, f_alen, f_new, f_newa, f_anew, f_virt, f_stat0, f_stat1, f_spec0, f_spec1, f_spec9, f_copy, f_max, f_min, f_cV1, f_cV0, f_cS1, f_cS0, f_iret, f_lret, f_vret, f_kG, pf0, cIg, inR, lget, lset, lset2, clr, entL, cnd, psh, catS, tsw, List.take_succ_cons, List.take_zero, List.drop_succ_cons, List.drop_zero, List.reverse_cons, List.reverse_nil, List.nil_append, List.cons_append, List.length_cons, List.length_nil, List.replicate_succ, List.replicate_zero, Nat.reduceAdd, Nat.reduceSub, Nat.reduceLeDiff, Nat.reduceLT, Nat.reduceEqDiff, Nat.reduceMul, Nat.zero_add, Nat.add_zero, Nat.le_refl, Nat.zero_le, Int.reduceEq, Int.reduceToNat, Int.toNat_natCast, Int.reduceNeg, Int.reduceAdd, Int.reduceSub, Int.reduceMul, Int.reduceLT, Int.reduceLE, Int.reduceDiv, Int.reduceMod, Bool.false_eq_true, ↓reduceIte, true_and, and_true, implies_true, forall_const, true_or, or_true, or_false, false_or, not_true_eq_false, not_false_eq_true, false_implies, Prod.mk.injEq, Fin.val_zero, Fin.val_one, Fin.isValue, Fin.reduceFinMk, Fin.val_two, mR_uI, mK_uI, mN_uI, mI_uR, mK_uR, mN_uR, mR_uC, mK_uC, mN_uC, Option.some.injEq, Sum.inl.injEq, Sum.inr.injEq, decide_true, decide_false, Bool.or_false, Bool.false_or, Bool.or_true, Bool.true_or, Nat.reduceBEq, beq_self_eq_true, show tb 0 = tb_0 from rfl, tb_0, tb_0_0, tb_0_1, tb_0_2, tb_0_3, tb_0_4, tb_0_5, tb_0_6, tb_0_7, tb_0_8, tb_0_9, tb_0_10, tb_0_11, tb_0_12, tb_0_13, tb_0_14, tb_0_15, tb_0_16, tb_0_17, tb_0_18, tb_0_19, tb_0_20, tb_0_21]
  exact h9
