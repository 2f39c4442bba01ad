/-! the completions, the class's object, the reference's -/
theorem cmp_f {c : Nat} (h : c = 361 ∨ c = 441) : SK c = 5 ∧ SN0 c = 8 ∧ okRw (c + 1) 24 ∧ SK (c + 75) = 2 ∧ SK (c + 78) = 20 ∧ SN0 (c + 78) = 60 ∧ SK (c + 79) = 20 ∧ SN0 (c + 79) = 60 := by
  rcases h with rfl | rfl
  · exact ⟨by decide, by decide, Or.inr ⟨Or.inl rfl, rfl⟩, by decide, by decide, by decide, by decide, by decide⟩
  · exact ⟨by decide, by decide, Or.inr ⟨Or.inr rfl, rfl⟩, by decide, by decide, by decide, by decide, by decide⟩
set_option maxRecDepth 100000 in
set_option maxHeartbeats 4000000 in
theorem e_newC (X : CX) (M : Mem) (c : Nat) (h : c = 361 ∨ c = 441) (hz : mZ M = c + 1) (hc : cl M c = arr 5 8) : Ev X y_Completion_init (79, 1771) [aR (some c), aR (some 59)] M (fun r M' => r = none ∧ Laid M M' c (c + 80)) := by
  have big : 900000 < BIG := Nat.le_of_ble_eq_true rfl
  obtain ⟨f1, f2, f3, f4, f5, f6, f7, f8⟩ := cmp_f h
  have c0 := Cn.st hz
  refine Ev_of mcd_8 mok_8 (by decide) rfl (Nat.le_of_ble_eq_true rfl) ?_
  rw [show yl 8 = 2 from rfl]
  refine G_w (pf0_ok X) LK_8 (fun i => false) 20 _ _ _ _ ?_
  simp only [f_0, f_s, f_iconst, f_bipush, f_sipush, f_ldc, f_ldc_w, f_ldc2_w, f_ldI, f_ldL, f_ldA, f_iload, f_iload_n, f_lload, f_lload_n, f_aload, f_aload_n, f_istore, f_istore_n, f_lstore, f_lstore_n, f_astore, f_astore_n, f_iinc, f_icI, f_iadd, f_isub, f_imul, f_idiv, f_irem, f_iand, f_ior, f_ixor, f_ishl, f_ishr, f_iushr, f_i2l, f_i2b, f_i2s, f_ladd, f_lmul, f_lcmp, f_dupI, f_dupR, f_dup2, f_pop, f_goto, f_if, f_icmp, f_tab, f_ts0, f_ts1, f_getI, f_getZ, f_getR, f_putI, f_putR, f_gets, f_iald, f_bald, f_aald, f_iast, f_bast, f_aast, f_alen, f_new, f_newa, f_anew, f_virt, f_stat0, f_stat1, f_spec0, f_spec1, f_spec9, f_copy, f_max, f_min, f_cV1, f_cV0, f_cS1, f_cS0, f_iret, f_lret, f_vret, f_kG, pf0, cIg, inR, lget, lset, lset2, clr, entL, cnd, psh, catS, tsw, List.take_succ_cons, List.take_zero, List.drop_succ_cons, List.drop_zero, List.reverse_cons, List.reverse_nil, List.nil_append, List.cons_append, List.length_cons, List.length_nil, List.replicate_succ, List.replicate_zero, Nat.reduceAdd, Nat.reduceSub, Nat.reduceLeDiff, Nat.reduceLT, Nat.reduceEqDiff, Nat.reduceMul, Nat.zero_add, Nat.add_zero, Nat.le_refl, Nat.zero_le, Int.reduceEq, Int.reduceToNat, Int.toNat_natCast, Int.reduceNeg, Int.reduceAdd, Int.reduceSub, Int.reduceMul, Int.reduceLT, Int.reduceLE, Int.reduceDiv, Int.reduceMod, Bool.false_eq_true, ↓reduceIte, true_and, and_true, implies_true, forall_const, true_or, or_true, or_false, false_or, not_true_eq_false, not_false_eq_true, false_implies, Prod.mk.injEq, Fin.val_zero, Fin.val_one, Fin.isValue, Fin.reduceFinMk, Fin.val_two, mR_uI, mK_uI, mN_uI, mI_uR, mK_uR, mN_uR, mR_uC, mK_uC, mN_uC, Option.some.injEq, Sum.inl.injEq, Sum.inr.injEq, decide_true, decide_false, Bool.or_false, Bool.false_or, Bool.or_true, Bool.true_or, Nat.reduceBEq, beq_self_eq_true, show tb 8 = tb_8 from rfl, tb_8, tb_8_0, mZ_uN, mS_uN, hz]
  (repeat' (first | with_reducible apply And.intro | with_reducible intro _)) <;> (try omega)
  refine ⟨(73, 1584), ⟨by simp only []; omega, by simp only []; omega⟩, Ev_mono (e_newR X (uN M 4 2) (c + 1) 24 f3 (by rw [mZ_uN, hz]) (by rw [cl_uN, if_pos hz.symm])) (fun q M1 hr z1 s1 => ?_)⟩
  obtain ⟨rfl, hL1⟩ := hr
  rw [mZ_uN, hz] at z1
  rw [mS_uN] at s1
  have z1 : mZ M1 = c + 75 := z1.trans (by show c + 1 + 1 + 73 = c + 75; omega)
  have c1 := c0.lay (show c + 1 < c + 75 by omega) hL1 z1
  have c2 := c1.nR c 0 (some (c + 1))
  have k1 : mK M1 c = 5 := by rw [c1.k, if_neg (by omega), hc]; rfl
  simp only [f_kG, psh, Nat.reduceAdd]
  refine G_w (pf0_ok X) LK_8 (fun i => false) 20 _ _ _ _ ?_
  simp only [f_0, f_s, f_iconst, f_bipush, f_sipush, f_ldc, f_ldc_w, f_ldc2_w, f_ldI, f_ldL, f_ldA, f_iload, f_iload_n, f_lload, f_lload_n, f_aload, f_aload_n, f_istore, f_istore_n, f_lstore, f_lstore_n, f_astore, f_astore_n, f_iinc, f_icI, f_iadd, f_isub, f_imul, f_idiv, f_irem, f_iand, f_ior, f_ixor, f_ishl, f_ishr, f_iushr, f_i2l, f_i2b, f_i2s, f_ladd, f_lmul, f_lcmp, f_dupI, f_dupR, f_dup2, f_pop, f_goto, f_if, f_icmp, f_tab, f_ts0, f_ts1, f_getI, f_getZ, f_getR, f_putI, f_putR, f_gets, f_iald, f_bald, f_aald, f_iast, f_bast, f_aast, f_alen, f_new, f_newa, f_anew, f_virt, f_stat0, f_stat1, f_spec0, f_spec1, f_spec9, f_copy, f_max, f_min, f_cV1, f_cV0, f_cS1, f_cS0, f_iret, f_lret, f_vret, f_kG, pf0, cIg, inR, lget, lset, lset2, clr, entL, cnd, psh, catS, tsw, List.take_succ_cons, List.take_zero, List.drop_succ_cons, List.drop_zero, List.reverse_cons, List.reverse_nil, List.nil_append, List.cons_append, List.length_cons, List.length_nil, List.replicate_succ, List.replicate_zero, Nat.reduceAdd, Nat.reduceSub, Nat.reduceLeDiff, Nat.reduceLT, Nat.reduceEqDiff, Nat.reduceMul, Nat.zero_add, Nat.add_zero, Nat.le_refl, Nat.zero_le, Int.reduceEq, Int.reduceToNat, Int.toNat_natCast, Int.reduceNeg, Int.reduceAdd, Int.reduceSub, Int.reduceMul, Int.reduceLT, Int.reduceLE, Int.reduceDiv, Int.reduceMod, Bool.false_eq_true, ↓reduceIte, true_and, and_true, implies_true, forall_const, true_or, or_true, or_false, false_or, not_true_eq_false, not_false_eq_true, false_implies, Prod.mk.injEq, Fin.val_zero, Fin.val_one, Fin.isValue, Fin.reduceFinMk, Fin.val_two, mR_uI, mK_uI, mN_uI, mI_uR, mK_uR, mN_uR, mR_uC, mK_uC, mN_uC, Option.some.injEq, Sum.inl.injEq, Sum.inr.injEq, decide_true, decide_false, Bool.or_false, Bool.false_or, Bool.or_true, Bool.true_or, Nat.reduceBEq, beq_self_eq_true, show tb 8 = tb_8 from rfl, tb_8, tb_8_0, mZ_uN, mS_uN, mZ_uR, mS_uR, hz, z1, k1]
  (repeat' (first | with_reducible apply And.intro | with_reducible intro _)) <;> (try omega)
  refine ⟨(2, 60), ⟨by simp only []; omega, by simp only []; omega⟩, Ev_mono (e_newP X (uN (uR M1 c 0 (some (c + 1))) 2 5) (c + 75) (by omega) (by rw [mZ_uN, mZ_uR, z1]) f4 (by rw [cl_uN, if_pos (by rw [mZ_uR, z1])])) (fun q M2 hr z2 s2 => ?_)⟩
  obtain ⟨rfl, hL2⟩ := hr
  rw [mZ_uN, mZ_uR, z1] at z2
  rw [mS_uN, mS_uR] at s2
  have z2 : mZ M2 = c + 78 := z2.trans (by show c + 75 + 1 + 2 = c + 78; omega)
  have c3 := c2.lay (show c + 75 < c + 78 by omega) hL2 z2
  have c4 := c3.nR c 5 (some (c + 75))
  have c5 := c4.nN 20 60
  have c6 := c5.nR c 6 (some (c + 78))
  have c7 := c6.nN 20 60
  have c8 := c7.nR c 7 (some (c + 78 + 1))
  have c9 := (c8.nR c 3 (some 59)).nS (mS M + 1771)
  have k2 : mK M2 c = 5 := by rw [c3.k, if_neg (by omega), if_pos rfl, if_neg (by omega), hc]; rfl
  have k3 : mK (uN (uR M2 c 5 (some (c + 75))) 20 60) c = 5 := by rw [mK_uN, if_neg (by rw [mZ_uR, z2]; omega), mK_uR]; exact k2
  have k4 : mK (uN (uR (uN (uR M2 c 5 (some (c + 75))) 20 60) c 6 (some (c + 78))) 20 60) c = 5 := by rw [mK_uN, if_neg (by rw [mZ_uR, mZ_uN, mZ_uR, z2]; omega), mK_uR]; exact k3
  have hL : Laid M (uS (uR (uR (uN (uR (uN (uR M2 c 5 (some (c + 75))) 20 60) c 6 (some (c + 78))) 20 60) c 7 (some (c + 78 + 1))) c 3 (some 59)) (mS M + 1771)) c (c + 80) := by
    refine ⟨fun a h1 h2 => ?_, fun a h => ?_⟩
    · rw [c9.e a]
      by_cases a0 : a = c
      · subst a0
        rw [if_pos rfl, if_pos rfl, if_neg (by omega), if_pos rfl, if_neg (by omega), if_pos rfl, if_neg (by omega), if_pos rfl, if_neg (by omega), hc]
        refine cel_ext f1.symm f2.symm (fun j => ?_) (fun j => (SI_0 (by omega) (by omega) j).symm)
        rw [show (LC a).2.2.1 j = SRR a j from rfl, SRR_c f1]
        show (if j = 3 then some 59 else if j = 7 then some (a + 78 + 1) else if j = 6 then some (a + 78) else if j = 5 then some (a + 75) else if j = 0 then some (a + 1) else none) = _
        by_cases j0 : j = 0
        · rw [if_neg (by omega), if_neg (by omega), if_neg (by omega), if_neg (by omega), if_pos j0, if_pos j0]
        · by_cases j3 : j = 3
          · rw [if_pos j3, if_neg j0, if_pos j3]
          · by_cases j5 : j = 5
            · rw [if_neg (by omega), if_neg (by omega), if_neg (by omega), if_pos j5, if_neg j0, if_neg j3, if_pos j5]
            · by_cases j6 : j = 6
              · rw [if_neg (by omega), if_neg (by omega), if_pos j6, if_neg j0, if_neg j3, if_neg j5, if_pos j6]
              · by_cases j7 : j = 7
                · rw [if_neg (by omega), if_pos j7, if_neg j0, if_neg j3, if_neg j5, if_neg j6, if_pos j7]
                · rw [if_neg j3, if_neg j7, if_neg j6, if_neg j5, if_neg j0, if_neg j0, if_neg j3, if_neg j5, if_neg j6, if_neg j7]
      · rw [if_neg a0, if_neg a0]
        by_cases a1 : a = c + 78 + 1
        · rw [if_pos a1, a1]; exact (LC_a f7 f8).symm
        · rw [if_neg a1, if_neg a0]
          by_cases a2 : a = c + 78
          · rw [if_pos a2, a2]; exact (LC_a f5 f6).symm
          · rw [if_neg a2, if_neg a0]
            by_cases a3 : c + 75 ≤ a ∧ a < c + 78
            · rw [if_pos a3]
            · rw [if_neg a3, if_neg a0, if_pos (by omega)]
    · rw [c9.e a, if_neg (by omega), if_neg (by omega), if_neg (by omega), if_neg (by omega), if_neg (by omega), if_neg (by omega), if_neg (by omega), if_neg (by omega), if_neg (by omega)]
  simp only [f_kG, psh, Nat.reduceAdd]
  refine G_w (pf0_ok X) LK_8 (fun i => false) 30 _ _ _ _ ?_
  simp only [f_0, f_s, f_iconst, f_bipush, f_sipush, f_ldc, f_ldc_w, f_ldc2_w, f_ldI, f_ldL, f_ldA, f_iload, f_iload_n, f_lload, f_lload_n, f_aload, f_aload_n, f_istore, f_istore_n, f_lstore, f_lstore_n, f_astore, f_astore_n, f_iinc, f_icI, f_iadd, f_isub, f_imul, f_idiv, f_irem, f_iand, f_ior, f_ixor, f_ishl, f_ishr, f_iushr, f_i2l, f_i2b, f_i2s, f_ladd, f_lmul, f_lcmp, f_dupI, f_dupR, f_dup2, f_pop, f_goto, f_if, f_icmp, f_tab, f_ts0, f_ts1, f_getI, f_getZ, f_getR, f_putI, f_putR, f_gets, f_iald, f_bald, f_aald, f_iast, f_bast, f_aast, f_alen, f_new, f_newa, f_anew, f_virt, f_stat0, f_stat1, f_spec0, f_spec1, f_spec9, f_copy, f_max, f_min, f_cV1, f_cV0, f_cS1, f_cS0, f_iret, f_lret, f_vret, f_kG, pf0, cIg, inR, lget, lset, lset2, clr, entL, cnd, psh, catS, tsw, List.take_succ_cons, List.take_zero, List.drop_succ_cons, List.drop_zero, List.reverse_cons, List.reverse_nil, List.nil_append, List.cons_append, List.length_cons, List.length_nil, List.replicate_succ, List.replicate_zero, Nat.reduceAdd, Nat.reduceSub, Nat.reduceLeDiff, Nat.reduceLT, Nat.reduceEqDiff, Nat.reduceMul, Nat.zero_add, Nat.add_zero, Nat.le_refl, Nat.zero_le, Int.reduceEq, Int.reduceToNat, Int.toNat_natCast, Int.reduceNeg, Int.reduceAdd, Int.reduceSub, Int.reduceMul, Int.reduceLT, Int.reduceLE, Int.reduceDiv, Int.reduceMod, Bool.false_eq_true, ↓reduceIte, true_and, and_true, implies_true, forall_const, true_or, or_true, or_false, false_or, not_true_eq_false, not_false_eq_true, false_implies, Prod.mk.injEq, Fin.val_zero, Fin.val_one, Fin.isValue, Fin.reduceFinMk, Fin.val_two, mR_uI, mK_uI, mN_uI, mI_uR, mK_uR, mN_uR, mR_uC, mK_uC, mN_uC, Option.some.injEq, Sum.inl.injEq, Sum.inr.injEq, decide_true, decide_false, Bool.or_false, Bool.false_or, Bool.or_true, Bool.true_or, Nat.reduceBEq, beq_self_eq_true, show tb 8 = tb_8 from rfl, tb_8, tb_8_0, mZ_uN, mS_uN, mZ_uR, mS_uR, hz, z2, k2, k3, k4]
  (repeat' (first | with_reducible apply And.intro | with_reducible intro _)) <;> (try omega)
  all_goals first | exact hL | rfl
/-! the class's object -/
def Gx (Mb : Mem) (n : Nat) (c0 c1 c2 c3 : Cel) (a : Nat) : Cel := if a = 0 then c0 else if a = 1 then c1 else if a = 2 then c2 else if a = 13 then c3 else if a < n then LC a else cl Mb a
theorem Gx.r0 {Mb M : Mem} {n : Nat} {c0 c1 c2 c3 : Cel} (h : Cn M n (Gx Mb n c0 c1 c2 c3)) (k : Nat) (v : Option Nat) : Cn (uR M 0 k v) n (Gx Mb n (upC c0 k v) c1 c2 c3) := (h.nR 0 k v).cv (fun a => by
  by_cases a0 : a = 0
  · rw [if_pos a0, Gx, Gx, if_pos rfl, if_pos a0]
  · rw [if_neg a0, Gx, Gx, if_neg a0, if_neg a0])
theorem Gx.r1 {Mb M : Mem} {n : Nat} {c0 c1 c2 c3 : Cel} (h : Cn M n (Gx Mb n c0 c1 c2 c3)) (k : Nat) (v : Option Nat) : Cn (uR M 1 k v) n (Gx Mb n c0 (upC c1 k v) c2 c3) := (h.nR 1 k v).cv (fun a => by
  by_cases a0 : a = 1
  · rw [if_pos a0, Gx, Gx, if_neg (by omega), if_pos rfl, if_neg (by omega), if_pos a0]
  · rw [if_neg a0, Gx, Gx, if_neg a0, if_neg a0])
theorem Gx.r2 {Mb M : Mem} {n : Nat} {c0 c1 c2 c3 : Cel} (h : Cn M n (Gx Mb n c0 c1 c2 c3)) (k : Nat) (v : Option Nat) : Cn (uR M 2 k v) n (Gx Mb n c0 c1 (upC c2 k v) c3) := (h.nR 2 k v).cv (fun a => by
  by_cases a0 : a = 2
  · rw [if_pos a0, Gx, Gx, if_neg (by omega), if_neg (by omega), if_pos rfl, if_neg (by omega), if_neg (by omega), if_pos a0]
  · rw [if_neg a0, Gx, Gx, if_neg a0, if_neg a0])
theorem Gx.r3 {Mb M : Mem} {n : Nat} {c0 c1 c2 c3 : Cel} (h : Cn M n (Gx Mb n c0 c1 c2 c3)) (k : Nat) (v : Option Nat) : Cn (uR M 13 k v) n (Gx Mb n c0 c1 c2 (upC c3 k v)) := (h.nR 13 k v).cv (fun a => by
  by_cases a0 : a = 13
  · rw [if_pos a0, Gx, Gx, if_neg (by omega), if_neg (by omega), if_neg (by omega), if_pos rfl, if_neg (by omega), if_neg (by omega), if_neg (by omega), if_pos a0]
  · rw [if_neg a0, Gx, Gx, if_neg a0, if_neg a0])
theorem Gx.nw {Mb M : Mem} {n k m : Nat} {c0 c1 c2 c3 : Cel} (h : Cn M n (Gx Mb n c0 c1 c2 c3)) (hn : 2 < n ∧ n ≠ 13) (hl : LC n = arr k m) : Cn (uN M k m) (n + 1) (Gx Mb (n + 1) c0 c1 c2 c3) := (h.nN k m).cv (fun a => by
  by_cases a0 : a = n
  · rw [if_pos a0, Gx, if_neg (by omega), if_neg (by omega), if_neg (by omega), if_neg (by omega), if_pos (by omega), a0, hl]
  · rw [if_neg a0, Gx, Gx]
    by_cases a1 : a < n
    · rw [if_pos a1, if_pos (show a < n + 1 by omega)]
    · rw [if_neg a1, if_neg (show ¬ a < n + 1 by omega)])
theorem Gx.bl {Mb M M' : Mem} {n n' k m : Nat} {c0 c1 c2 c3 : Cel} (h : Cn M n (Gx Mb n c0 c1 c2 c3)) (hn : n < n') (hs : 13 < n ∨ (2 < n ∧ n' ≤ 13)) (hL : Laid (uN M k m) M' n n') (hz : mZ M' = n') : Cn M' n' (Gx Mb n' c0 c1 c2 c3) := (h.lay hn hL hz).cv (fun a => by
  by_cases a0 : n ≤ a ∧ a < n'
  · rw [if_pos a0, Gx, if_neg (by omega), if_neg (by omega), if_neg (by omega), if_neg (by omega), if_pos (by omega)]
  · rw [if_neg a0, Gx, Gx]
    by_cases a1 : a < n
    · rw [if_pos a1, if_pos (show a < n' by omega)]
    · rw [if_neg a1, if_neg (show ¬ a < n' by omega)])
/-- the object's references when its fields are made, ahead of the loops -/
def R0 : Cel := (0, 15, fun k => ([some 1, some 2, some 3, none, none, none, none, some 4, none, some 7, none, some 10, some 11, some 13, none] : List (Option Nat)).getD k none, fun _ => 0)
def V1 (t : Nat) : Cel := (31, 8, fun k => if k < t then some (14 + 2 * k) else none, fun _ => 0)
def V2 (t : Nat) : Cel := (32, 7, fun k => if k < t then some (30 + 3 * k) else none, fun _ => 0)
def V3 (t : Nat) : Cel := (37, 4, fun k => if k < t then some (51 + 2 * k) else none, fun _ => 0)
theorem upT {k0 n b s t : Nat} : upC (k0, n, fun k => if k < t then some (b + s * k) else none, fun _ => 0) t (some (b + s * t)) = (k0, n, fun k => if k < t + 1 then some (b + s * k) else none, fun _ => 0) := cel_ext rfl rfl (fun k => by
  show (if k = t then some (b + s * t) else if k < t then some (b + s * k) else none) = if k < t + 1 then some (b + s * k) else none
  by_cases ki : k = t
  · rw [if_pos ki, if_pos (by omega), ki]
  · rw [if_neg ki]
    by_cases k2 : k < t
    · rw [if_pos k2, if_pos (by omega)]
    · rw [if_neg k2, if_neg (by omega)]) (fun j => rfl)
theorem V0 {k0 n b s : Nat} : arr k0 n = (k0, n, fun k => if k < 0 then some (b + s * k) else none, fun _ => 0) := cel_ext rfl rfl (fun k => by show none = if k < 0 then some (b + s * k) else none; rw [if_neg (by omega)]) (fun j => rfl)
theorem txt_f : ∀ t : Nat, t < 8 → SK (14 + 2 * t) = 1 ∧ SN0 (14 + 2 * t) = 3 ∧ SK (14 + 2 * t + 1) = 20 ∧ SN0 (14 + 2 * t + 1) = if t = 7 then 3 else 30 := by decide
theorem val_f : ∀ t : Nat, t < 7 → SK (30 + 3 * t) = 2 := by decide
theorem sht_f : ∀ t : Nat, t < 4 → SK (51 + 2 * t) = 7 ∧ SN0 (51 + 2 * t) = 3 ∧ SK (51 + 2 * t + 1) = 20 ∧ SN0 (51 + 2 * t + 1) = 60 := by decide
theorem LC_1 : LC 1 = V1 8 := cel_ext rfl rfl (fun k => rfl) (fun j => SI_0 (a := 1) (by decide) (by decide) j)
theorem LC_2 : LC 2 = V2 7 := cel_ext rfl rfl (fun k => rfl) (fun j => SI_0 (a := 2) (by decide) (by decide) j)
theorem LC_13 : LC 13 = V3 4 := cel_ext rfl rfl (fun k => rfl) (fun j => SI_0 (a := 13) (by decide) (by decide) j)
theorem LC_0 : LC 0 = upC (upC R0 5 (some 361)) 6 (some 441) := cel_ext rfl rfl (fun k => by
  match k with
  | 0 => rfl
  | 1 => rfl
  | 2 => rfl
  | 3 => rfl
  | 4 => rfl
  | 5 => rfl
  | 6 => rfl
  | 7 => rfl
  | 8 => rfl
  | 9 => rfl
  | 10 => rfl
  | 11 => rfl
  | 12 => rfl
  | 13 => rfl
  | 14 => rfl
  | n + 15 => rfl) (fun j => SI_0 (a := 0) (by decide) (by decide) j)
theorem R0_eq : upC (upC (upC (upC (upC (upC (upC (upC (arr 0 15) 0 (some 1)) 1 (some 2)) 2 (some 3)) 7 (some 4)) 9 (some 7)) 11 (some 10)) 12 (some 11)) 13 (some 13) = R0 := cel_ext rfl rfl (fun k => by
  match k with
  | 0 => rfl
  | 1 => rfl
  | 2 => rfl
  | 3 => rfl
  | 4 => rfl
  | 5 => rfl
  | 6 => rfl
  | 7 => rfl
  | 8 => rfl
  | 9 => rfl
  | 10 => rfl
  | 11 => rfl
  | 12 => rfl
  | 13 => rfl
  | 14 => rfl
  | n + 15 => rfl) (fun j => rfl)
