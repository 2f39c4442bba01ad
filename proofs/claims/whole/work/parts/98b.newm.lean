/-! the reference's object is made -/
def Gm (Mb : Mem) (n : Nat) (c0 : Cel) (a : Nat) : Cel := if a = 521 then c0 else if 521 < a ∧ a < n then LC a else cl Mb a
theorem Gm.r {Mb M : Mem} {n : Nat} {c0 : Cel} (h : Cn M n (Gm Mb n c0)) (k : Nat) (v : Option Nat) : Cn (uR M 521 k v) n (Gm Mb n (upC c0 k v)) := (h.nR 521 k v).cv (fun a => by
  by_cases a0 : a = 521
  · rw [if_pos a0, Gm, Gm, if_pos rfl, if_pos a0]
  · rw [if_neg a0, Gm, Gm, if_neg a0, if_neg a0])
theorem Gm.nw {Mb M : Mem} {n k m : Nat} {c0 : Cel} (h : Cn M n (Gm Mb n c0)) (hn : 521 < n) (hl : LC n = arr k m) : Cn (uN M k m) (n + 1) (Gm Mb (n + 1) c0) := (h.nN k m).cv (fun a => by
  by_cases a0 : a = n
  · rw [if_pos a0, Gm, if_neg (by omega), if_pos (by omega), a0, hl]
  · rw [if_neg a0, Gm, Gm]
    by_cases a1 : 521 < a ∧ a < n
    · rw [if_pos a1, if_pos (show 521 < a ∧ a < n + 1 by omega)]
    · rw [if_neg a1, if_neg (show ¬ (521 < a ∧ a < n + 1) by omega)])
theorem LC_b {a n : Nat} (h : SK a = 21) (hn : SN0 a = n) : LC a = arr 21 n := cel_ext h hn (fun k => SRR_a (Or.inr (Or.inl h)) k) (fun j => SI_0 (by omega) (by omega) j)
theorem LC_521 : LC 521 = upC (upC (upC (upC (upC (upC (upC (upC (upC (upC (upC (upC (upC (upC (arr 8 25) 1 (some 522)) 2 (some 523)) 3 (some 524)) 4 (some 525)) 5 (some 526)) 14 (some 527)) 15 (some 528)) 16 (some 529)) 18 (some 530)) 19 (some 531)) 20 (some 532)) 21 (some 533)) 22 (some 534)) 23 (some 535) := cel_ext rfl rfl (fun k => by
  match k with
  | 0 => rfl
  | 1 => rfl
  | 2 => rfl
  | 3 => rfl
  | 4 => rfl
  | 5 => rfl
  | 6 => rfl
  | 7 => rfl
  | 8 => rfl
  | 9 => rfl
  | 10 => rfl
  | 11 => rfl
  | 12 => rfl
  | 13 => rfl
  | 14 => rfl
  | 15 => rfl
  | 16 => rfl
  | 17 => rfl
  | 18 => rfl
  | 19 => rfl
  | 20 => rfl
  | 21 => rfl
  | 22 => rfl
  | 23 => rfl
  | 24 => rfl
  | n + 25 => rfl) (fun j => SI_0 (a := 521) (by decide) (by decide) j)
set_option maxRecDepth 100000 in
set_option maxHeartbeats 4000000 in
theorem e_newm (X : CX) (M : Mem) (hz : mZ M = 522) (hc : cl M 521 = arr 8 25) : Ev X y_m_init (14, 5140) [aR (some 521)] M (fun r M' => r = none ∧ Laid M M' 521 536) := by
  have big : 900000 < BIG := Nat.le_of_ble_eq_true rfl
  have k0 : mK M 521 = 8 := congrArg (fun c : Cel => c.1) hc
  have s0 : Cn M 522 (Gm M 522 (arr 8 25)) := (Cn.st hz).cv (fun a => by
    rw [Gm]
    by_cases a0 : a = 521
    · rw [if_pos a0, a0, hc]
    · rw [if_neg a0, if_neg (by omega)])
  have t0 := Gm.nw (k := 20) (m := 3960) s0 (by omega) (LC_a (by decide) (by decide))
  have s1 := Gm.r t0 1 (some 522)
  have t1 := Gm.nw (k := 20) (m := 132) s1 (by omega) (LC_a (by decide) (by decide))
  have s2 := Gm.r t1 2 (some 523)
  have t2 := Gm.nw (k := 20) (m := 8) s2 (by omega) (LC_a (by decide) (by decide))
  have s3 := Gm.r t2 3 (some 524)
  have t3 := Gm.nw (k := 20) (m := 240) s3 (by omega) (LC_a (by decide) (by decide))
  have s4 := Gm.r t3 4 (some 525)
  have t4 := Gm.nw (k := 20) (m := 8) s4 (by omega) (LC_a (by decide) (by decide))
  have s5 := Gm.r t4 5 (some 526)
  have t5 := Gm.nw (k := 20) (m := 25) s5 (by omega) (LC_a (by decide) (by decide))
  have s6 := Gm.r t5 14 (some 527)
  have t6 := Gm.nw (k := 20) (m := 30) s6 (by omega) (LC_a (by decide) (by decide))
  have s7 := Gm.r t6 15 (some 528)
  have t7 := Gm.nw (k := 20) (m := 25) s7 (by omega) (LC_a (by decide) (by decide))
  have s8 := Gm.r t7 16 (some 529)
  have t8 := Gm.nw (k := 20) (m := 400) s8 (by omega) (LC_a (by decide) (by decide))
  have s9 := Gm.r t8 18 (some 530)
  have t9 := Gm.nw (k := 21) (m := 4) s9 (by omega) (LC_b (by decide) (by decide))
  have s10 := Gm.r t9 19 (some 531)
  have t10 := Gm.nw (k := 20) (m := 4) s10 (by omega) (LC_a (by decide) (by decide))
  have s11 := Gm.r t10 20 (some 532)
  have t11 := Gm.nw (k := 20) (m := 4) s11 (by omega) (LC_a (by decide) (by decide))
  have s12 := Gm.r t11 21 (some 533)
  have t12 := Gm.nw (k := 20) (m := 240) s12 (by omega) (LC_a (by decide) (by decide))
  have s13 := Gm.r t12 22 (some 534)
  have t13 := Gm.nw (k := 20) (m := 60) s13 (by omega) (LC_a (by decide) (by decide))
  have s14 := Gm.r t13 23 (some 535)
  have c9 := s14.nS (mS M + 5140)
  have hL : Laid M (uS (uR (uN (uR (uN (uR (uN (uR (uN (uR (uN (uR (uN (uR (uN (uR (uN (uR (uN (uR (uN (uR (uN (uR (uN (uR (uN (uR (uN M 20 3960) 521 1 (some 522)) 20 132) 521 2 (some 523)) 20 8) 521 3 (some 524)) 20 240) 521 4 (some 525)) 20 8) 521 5 (some 526)) 20 25) 521 14 (some 527)) 20 30) 521 15 (some 528)) 20 25) 521 16 (some 529)) 20 400) 521 18 (some 530)) 21 4) 521 19 (some 531)) 20 4) 521 20 (some 532)) 20 4) 521 21 (some 533)) 20 240) 521 22 (some 534)) 20 60) 521 23 (some 535)) (mS M + 5140)) 521 536 := by
    refine ⟨fun a h1 h2 => ?_, fun a h => ?_⟩
    · rw [c9.e a, Gm]
      by_cases a0 : a = 521
      · rw [if_pos a0, a0, LC_521]
      · rw [if_neg a0, if_pos (by omega)]
    · rw [c9.e a, Gm, if_neg (by omega), if_neg (by omega)]
  refine Ev_of mcd_106 mok_106 (by decide) rfl (Nat.le_of_ble_eq_true rfl) ?_
  rw [show yl 106 = 1 from rfl]
  refine G_w (pf0_ok X) LK_106 (fun i => false) 80 _ _ _ _ ?_
  simp only [f_0, f_s, f_iconst, f_bipush, f_sipush, f_ldc, f_ldc_w, f_ldc2_w, f_ldI, f_ldL, f_ldA, f_iload, f_iload_n, f_lload, f_lload_n, f_aload, f_aload_n, f_istore, f_istore_n, f_lstore, f_lstore_n, f_astore, f_astore_n, f_iinc, f_icI, f_iadd, f_isub, f_imul, f_idiv, f_irem, f_iand, f_ior, f_ixor, f_ishl, f_ishr, f_iushr, f_i2l, f_i2b, f_i2s, f_ladd, f_lmul, f_lcmp, f_dupI, f_dupR, f_dup2, f_pop, f_goto, f_if, f_icmp, f_tab, f_ts0, f_ts1, f_getI, f_getZ, f_getR, f_putI, f_putR, f_gets, f_iald, f_bald, f_aald, f_iast, f_bast, f_aast, f_alen, f_new, f_newa, f_anew, f_virt, f_stat0, f_stat1, f_spec0, f_spec1, f_spec9, f_copy, f_max, f_min, f_cV1, f_cV0, f_cS1, f_cS0, f_iret, f_lret, f_vret, f_kG, pf0, cIg, inR, lget, lset, lset2, clr, entL, cnd, psh, catS, tsw, List.take_succ_cons, List.take_zero, List.drop_succ_cons, List.drop_zero, List.reverse_cons, List.reverse_nil, List.nil_append, List.cons_append, List.length_cons, List.length_nil, List.replicate_succ, List.replicate_zero, Nat.reduceAdd, Nat.reduceSub, Nat.reduceLeDiff, Nat.reduceLT, Nat.reduceEqDiff, Nat.reduceMul, Nat.zero_add, Nat.add_zero, Nat.le_refl, Nat.zero_le, Int.reduceEq, Int.reduceToNat, Int.toNat_natCast, Int.reduceNeg, Int.reduceAdd, Int.reduceSub, Int.reduceMul, Int.reduceLT, Int.reduceLE, Int.reduceDiv, Int.reduceMod, Bool.false_eq_true, ↓reduceIte, true_and, and_true, implies_true, forall_const, true_or, or_true, or_false, false_or, not_true_eq_false, not_false_eq_true, false_implies, Prod.mk.injEq, Fin.val_zero, Fin.val_one, Fin.isValue, Fin.reduceFinMk, Fin.val_two, mR_uI, mK_uI, mN_uI, mI_uR, mK_uR, mN_uR, mR_uC, mK_uC, mN_uC, Option.some.injEq, Sum.inl.injEq, Sum.inr.injEq, decide_true, decide_false, Bool.or_false, Bool.false_or, Bool.or_true, Bool.true_or, Nat.reduceBEq, beq_self_eq_true, show tb 106 = tb_106 from rfl, tb_106, tb_106_0, tb_106_1, mZ_uN, mS_uN, mZ_uR, mS_uR, mK_uN, hz, k0]
  (repeat' (first | with_reducible apply And.intro | with_reducible intro _)) <;> (try omega)
  all_goals first | exact hL | rfl
