/-! what the constructors lay -/
abbrev Cel : Type := Nat × Nat × (Nat → Option Nat) × (Nat → Int)
def cl (M : Mem) (a : Nat) : Cel := (mK M a, mN M a, mR M a, mI M a)
def arr (k n : Nat) : Cel := (k, n, fun _ => none, fun _ => 0)
def upC (c : Cel) (k : Nat) (v : Option Nat) : Cel := (c.1, c.2.1, fun j => if j = k then v else c.2.2.1 j, c.2.2.2)
def upJ (c : Cel) (k : Nat) (v : Int) : Cel := (c.1, c.2.1, c.2.2.1, fun j => if j = k then v else c.2.2.2 j)
theorem cel_ext {a b : Cel} (h1 : a.1 = b.1) (h2 : a.2.1 = b.2.1) (h3 : ∀ k, a.2.2.1 k = b.2.2.1 k) (h4 : ∀ k, a.2.2.2 k = b.2.2.2 k) : a = b := Prod.ext h1 (Prod.ext h2 (Prod.ext (funext h3) (funext h4)))
theorem cl_uN (M : Mem) (k n a : Nat) : cl (uN M k n) a = if a = mZ M then arr k n else cl M a := by
  by_cases h : a = mZ M
  · rw [if_pos h]
    exact cel_ext ((mK_uN M k n a).trans (if_pos h)) ((mN_uN M k n a).trans (if_pos h)) (fun j => (mR_uN M k n a j).trans (if_pos h)) (fun j => (mI_uN M k n a j).trans (if_pos h))
  · rw [if_neg h]
    exact cel_ext ((mK_uN M k n a).trans (if_neg h)) ((mN_uN M k n a).trans (if_neg h)) (fun j => (mR_uN M k n a j).trans (if_neg h)) (fun j => (mI_uN M k n a j).trans (if_neg h))
theorem cl_uR (M : Mem) (b k : Nat) (v : Option Nat) (a : Nat) : cl (uR M b k v) a = if a = b then upC (cl M b) k v else cl M a := by
  by_cases h : a = b
  · rw [if_pos h, h]
    refine cel_ext rfl rfl (fun j => ?_) (fun j => rfl)
    show mR (uR M b k v) b j = if j = k then v else mR M b j
    rw [mR_uR]
    by_cases hj : j = k
    · rw [if_pos ⟨rfl, hj⟩, if_pos hj]
    · rw [if_neg (fun h9 => hj h9.2), if_neg hj]
  · rw [if_neg h]
    refine cel_ext rfl rfl (fun j => ?_) (fun j => rfl)
    show mR (uR M b k v) a j = mR M a j
    rw [mR_uR, if_neg (fun h9 => h h9.1)]
theorem cl_uI (M : Mem) (b k : Nat) (v : Int) (a : Nat) : cl (uI M b k v) a = if a = b then upJ (cl M b) k v else cl M a := by
  by_cases h : a = b
  · rw [if_pos h, h]
    refine cel_ext rfl rfl (fun j => rfl) (fun j => ?_)
    show mI (uI M b k v) b j = if j = k then v else mI M b j
    rw [mI_uI]
    by_cases hj : j = k
    · rw [if_pos ⟨rfl, hj⟩, if_pos hj]
    · rw [if_neg (fun h9 => hj h9.2), if_neg hj]
  · rw [if_neg h]
    refine cel_ext rfl rfl (fun j => rfl) (fun j => ?_)
    show mI (uI M b k v) a j = mI M a j
    rw [mI_uI, if_neg (fun h9 => h h9.1)]
theorem mZ_uR (M : Mem) (a k : Nat) (v : Option Nat) : mZ (uR M a k v) = mZ M := (rfl)
theorem mS_uR (M : Mem) (a k : Nat) (v : Option Nat) : mS (uR M a k v) = mS M := (rfl)
theorem mZ_uI (M : Mem) (a k : Nat) (v : Int) : mZ (uI M a k v) = mZ M := (rfl)
theorem mS_uI (M : Mem) (a k : Nat) (v : Int) : mS (uI M a k v) = mS M := (rfl)
/-- a memory by its cells -/
def Cn (M : Mem) (n : Nat) (f : Nat → Cel) : Prop := mZ M = n ∧ ∀ a, cl M a = f a
theorem Cn.nN {M : Mem} {n : Nat} {f : Nat → Cel} (h : Cn M n f) (k m : Nat) : Cn (uN M k m) (n + 1) (fun a => if a = n then arr k m else f a) := ⟨by rw [mZ_uN, h.1], fun a => by rw [cl_uN, h.1, h.2]⟩
theorem Cn.nR {M : Mem} {n : Nat} {f : Nat → Cel} (h : Cn M n f) (b k : Nat) (v : Option Nat) : Cn (uR M b k v) n (fun a => if a = b then upC (f b) k v else f a) := ⟨h.1, fun a => by rw [cl_uR, h.2, h.2]⟩
theorem Cn.nI {M : Mem} {n : Nat} {f : Nat → Cel} (h : Cn M n f) (b k : Nat) (v : Int) : Cn (uI M b k v) n (fun a => if a = b then upJ (f b) k v else f a) := ⟨h.1, fun a => by rw [cl_uI, h.2, h.2]⟩
theorem Cn.nS {M : Mem} {n : Nat} {f : Nat → Cel} (h : Cn M n f) (s : Nat) : Cn (uS M s) n f := ⟨h.1, fun a => h.2 a⟩
theorem Cn.e {M : Mem} {n : Nat} {f : Nat → Cel} (h : Cn M n f) (a : Nat) : cl M a = f a := h.2 a
theorem Cn.k {M : Mem} {n : Nat} {f : Nat → Cel} (h : Cn M n f) (a : Nat) : mK M a = (f a).1 := congrArg (fun c : Cel => c.1) (h.2 a)
theorem Cn.l {M : Mem} {n : Nat} {f : Nat → Cel} (h : Cn M n f) (a : Nat) : mN M a = (f a).2.1 := congrArg (fun c : Cel => c.2.1) (h.2 a)
theorem Cn.r {M : Mem} {n : Nat} {f : Nat → Cel} (h : Cn M n f) (a k : Nat) : mR M a k = (f a).2.2.1 k := congrArg (fun c : Cel => c.2.2.1 k) (h.2 a)
theorem Cn.i {M : Mem} {n : Nat} {f : Nat → Cel} (h : Cn M n f) (a k : Nat) : mI M a k = (f a).2.2.2 k := congrArg (fun c : Cel => c.2.2.2 k) (h.2 a)
/-! the tables of all cells, the three rows and all ints too -/
def SRR (a k : Nat) : Option Nat := if a = 60 then (if k < 100 then some (61 + 3 * k) else none) else if a = 363 then (if k < 24 then some (364 + 3 * k) else none) else if a = 443 then (if k < 24 then some (444 + 3 * k) else none) else SR a k
def SI (a j : Nat) : Int := if SK a = 1 ∧ j = 2 then -1 else if SK a = 7 ∧ j = 1 then -1 else 0
def LC (a : Nat) : Cel := (SK a, SN0 a, SRR a, SI a)
theorem SRR_o {a : Nat} (h : SK a = 1 ∨ SK a = 7 ∨ SK a = 4 ∨ SK a = 6) (k : Nat) : SRR a k = if k = 0 then some (a + 1) else none := by
  have n0 : a ≠ 0 := fun e => by subst e; revert h; decide
  have n1 : a ≠ 1 := fun e => by subst e; revert h; decide
  have n2 : a ≠ 2 := fun e => by subst e; revert h; decide
  have n3 : a ≠ 13 := fun e => by subst e; revert h; decide
  have n4 : a ≠ 521 := fun e => by subst e; revert h; decide
  have n5 : a ≠ 60 := fun e => by subst e; revert h; decide
  have n6 : a ≠ 363 := fun e => by subst e; revert h; decide
  have n7 : a ≠ 443 := fun e => by subst e; revert h; decide
  unfold SRR
  rw [if_neg n5, if_neg n6, if_neg n7]
  unfold SR
  rw [if_neg n0, if_neg n1, if_neg n2, if_neg n3, if_neg n4, if_neg (by omega), if_neg (by omega), if_pos (by omega)]
theorem SRR_p {a : Nat} (h : SK a = 2) (k : Nat) : SRR a k = if k = 0 then some (a + 1) else if k = 1 then some (a + 2) else none := by
  have n0 : a ≠ 0 := fun e => by subst e; revert h; decide
  have n1 : a ≠ 1 := fun e => by subst e; revert h; decide
  have n2 : a ≠ 2 := fun e => by subst e; revert h; decide
  have n3 : a ≠ 13 := fun e => by subst e; revert h; decide
  have n4 : a ≠ 521 := fun e => by subst e; revert h; decide
  have n5 : a ≠ 60 := fun e => by subst e; revert h; decide
  have n6 : a ≠ 363 := fun e => by subst e; revert h; decide
  have n7 : a ≠ 443 := fun e => by subst e; revert h; decide
  unfold SRR
  rw [if_neg n5, if_neg n6, if_neg n7]
  unfold SR
  rw [if_neg n0, if_neg n1, if_neg n2, if_neg n3, if_neg n4, if_pos h]
theorem SRR_c {a : Nat} (h : SK a = 5) (k : Nat) : SRR a k = if k = 0 then some (a + 1) else if k = 3 then some 59 else if k = 5 then some (a + 75) else if k = 6 then some (a + 78) else if k = 7 then some (a + 79) else none := by
  have n0 : a ≠ 0 := fun e => by subst e; revert h; decide
  have n1 : a ≠ 1 := fun e => by subst e; revert h; decide
  have n2 : a ≠ 2 := fun e => by subst e; revert h; decide
  have n3 : a ≠ 13 := fun e => by subst e; revert h; decide
  have n4 : a ≠ 521 := fun e => by subst e; revert h; decide
  have n5 : a ≠ 60 := fun e => by subst e; revert h; decide
  have n6 : a ≠ 363 := fun e => by subst e; revert h; decide
  have n7 : a ≠ 443 := fun e => by subst e; revert h; decide
  unfold SRR
  rw [if_neg n5, if_neg n6, if_neg n7]
  unfold SR
  rw [if_neg n0, if_neg n1, if_neg n2, if_neg n3, if_neg n4, if_neg (by omega), if_pos h]
theorem SRR_a {a : Nat} (h : SK a = 20 ∨ SK a = 21 ∨ SK a = 3) (k : Nat) : SRR a k = none := by
  have n0 : a ≠ 0 := fun e => by subst e; revert h; decide
  have n1 : a ≠ 1 := fun e => by subst e; revert h; decide
  have n2 : a ≠ 2 := fun e => by subst e; revert h; decide
  have n3 : a ≠ 13 := fun e => by subst e; revert h; decide
  have n4 : a ≠ 521 := fun e => by subst e; revert h; decide
  have n5 : a ≠ 60 := fun e => by subst e; revert h; decide
  have n6 : a ≠ 363 := fun e => by subst e; revert h; decide
  have n7 : a ≠ 443 := fun e => by subst e; revert h; decide
  unfold SRR
  rw [if_neg n5, if_neg n6, if_neg n7]
  unfold SR
  rw [if_neg n0, if_neg n1, if_neg n2, if_neg n3, if_neg n4, if_neg (by omega), if_neg (by omega), if_neg (by omega)]
theorem SI_0 {a : Nat} (h1 : SK a ≠ 1) (h2 : SK a ≠ 7) (j : Nat) : SI a j = 0 := by
  unfold SI
  rw [if_neg (fun h => h1 h.1), if_neg (fun h => h2 h.1)]
theorem LC_a {a n : Nat} (h : SK a = 20) (hn : SN0 a = n) : LC a = arr 20 n := cel_ext h hn (fun k => SRR_a (Or.inl h) k) (fun j => SI_0 (by omega) (by omega) j)
theorem poly_n : (List.range 536).all (fun p => decide (SK p ≠ 2) || decide (SN0 p = 5)) = true := by decide +kernel
theorem LC_p {p : Nat} (h : SK p = 2) : LC p = (2, 5, fun k => if k = 0 then some (p + 1) else if k = 1 then some (p + 2) else none, fun _ => 0) ∧ LC (p + 1) = arr 20 30 ∧ LC (p + 2) = arr 20 30 := by
  obtain ⟨a1, a2, a3, a4, a5, a6, a7, a8, a9, a10⟩ := poly_f h
  have hb : p + 2 < BIG := by have := big_gt; omega
  have hn : SN0 p = 5 := by
    have h1 := List.all_eq_true.mp poly_n p (List.mem_range.mpr (by omega))
    simp only [Bool.or_eq_true, decide_eq_true_eq] at h1
    exact h1.resolve_left (fun h9 => h9 h)
  have e3 : SN0 (p + 1) = 30 := by rw [← a3]; unfold SN; rw [if_pos (by omega)]
  have e4 : SN0 (p + 2) = 30 := by rw [← a4]; unfold SN; rw [if_pos (by omega)]
  exact ⟨cel_ext h hn (fun k => SRR_p h k) (fun j => SI_0 (by omega) (by omega) j), LC_a a1 e3, LC_a a2 e4⟩
/-- what is laid from lo to hi; the rest stays -/
def Laid (M M' : Mem) (lo hi : Nat) : Prop := (∀ a, lo ≤ a → a < hi → cl M' a = LC a) ∧ ∀ a, ¬ (lo ≤ a ∧ a < hi) → cl M' a = cl M a
theorem Cn.st {M : Mem} {n : Nat} (h : mZ M = n) : Cn M n (cl M) := ⟨h, fun _ => rfl⟩
set_option maxRecDepth 100000 in
set_option maxHeartbeats 4000000 in
theorem e_newP (X : CX) (M : Mem) (p : Nat) (hp : p < 1000) (hz : mZ M = p + 1) (hk : SK p = 2) (hc : cl M p = arr 2 5) : Ev X y_Polynomial_init (2, 60) [aR (some p)] M (fun r M' => r = none ∧ Laid M M' p (p + 3)) := by
  have big : 900000 < BIG := Nat.le_of_ble_eq_true rfl
  have c0 := Cn.st hz
  have c1 := c0.nN 20 30
  have c2 := c1.nR p 0 (some (p + 1))
  have c3 := c2.nN 20 30
  have c4 := (c3.nR p 1 (some (p + 1 + 1))).nS (mS M + 60)
  have k1 : mK (uN M 20 30) p = 2 := by rw [c1.k, if_neg (by omega), hc]; rfl
  have k2 : mK (uN (uR (uN M 20 30) p 0 (some (p + 1))) 20 30) p = 2 := by rw [c3.k, if_neg (by omega), if_pos rfl]; simp only [if_neg (show ¬ p = p + 1 by omega), hc]; rfl
  have hL : Laid M (uS (uR (uN (uR (uN M 20 30) p 0 (some (p + 1))) 20 30) p 1 (some (p + 1 + 1))) (mS M + 60)) p (p + 3) := by
    obtain ⟨l1, l2, l3⟩ := LC_p hk
    refine ⟨fun a h1 h2 => ?_, fun a h => ?_⟩
    · rw [c4.e a]
      rcases (show a = p ∨ a = p + 1 ∨ a = p + 2 by omega) with rfl | rfl | rfl
      · rw [if_pos rfl, if_neg (by omega), if_pos rfl, if_neg (by omega), hc, l1]
        refine cel_ext rfl rfl (fun j => ?_) (fun j => rfl)
        show (if j = 1 then some (a + 1 + 1) else if j = 0 then some (a + 1) else none) = if j = 0 then some (a + 1) else if j = 1 then some (a + 2) else none
        by_cases j1 : j = 1
        · rw [if_pos j1, if_neg (by omega), if_pos j1]
        · rw [if_neg j1, if_neg j1]
      · rw [if_neg (by omega), if_neg (by omega), if_neg (by omega), if_pos rfl, l2]
      · rw [if_neg (by omega), if_pos (by omega), l3]
    · rw [c4.e a, if_neg (by omega), if_neg (by omega), if_neg (by omega), if_neg (by omega)]
  refine Ev_of mcd_3 mok_3 (by decide) rfl (Nat.le_of_ble_eq_true rfl) ?_
  rw [show yl 3 = 1 from rfl]
  refine G_w (pf0_ok X) LK_3 (fun i => false) 20 _ _ _ _ ?_
  simp only [f_0, f_s, f_iconst, f_bipush, f_sipush, f_ldc, f_ldc_w, f_ldc2_w, f_ldI, f_ldL, f_ldA, f_iload, f_iload_n, f_lload, f_lload_n, f_aload, f_aload_n, f_istore, f_istore_n, f_lstore, f_lstore_n, f_astore, f_astore_n, f_iinc, f_icI, f_iadd, f_isub, f_imul, f_idiv, f_irem, f_iand, f_ior, f_ixor, f_ishl, f_ishr, f_iushr, f_i2l, f_i2b, f_i2s, f_ladd, f_lmul, f_lcmp, f_dupI, f_dupR, f_dup2, f_pop, f_goto, f_if, f_icmp, f_tab, f_ts0, f_ts1, f_getI, f_getZ, f_getR, f_putI, f_putR, f_gets, f_iald, f_bald, f_aald, f_iast, f_bast, f_aast, f_alen, f_new, f_newa, f_anew, f_virt, f_stat0, f_stat1, f_spec0, f_spec1, f_spec9, f_copy, f_max, f_min, f_cV1, f_cV0, f_cS1, f_cS0, f_iret, f_lret, f_vret, f_kG, pf0, cIg, inR, lget, lset, lset2, clr, entL, cnd, psh, catS, tsw, List.take_succ_cons, List.take_zero, List.drop_succ_cons, List.drop_zero, List.reverse_cons, List.reverse_nil, List.nil_append, List.cons_append, List.length_cons, List.length_nil, List.replicate_succ, List.replicate_zero, Nat.reduceAdd, Nat.reduceSub, Nat.reduceLeDiff, Nat.reduceLT, Nat.reduceEqDiff, Nat.reduceMul, Nat.zero_add, Nat.add_zero, Nat.le_refl, Nat.zero_le, Int.reduceEq, Int.reduceToNat, Int.toNat_natCast, Int.reduceNeg, Int.reduceAdd, Int.reduceSub, Int.reduceMul, Int.reduceLT, Int.reduceLE, Int.reduceDiv, Int.reduceMod, Bool.false_eq_true, ↓reduceIte, true_and, and_true, implies_true, forall_const, true_or, or_true, or_false, false_or, not_true_eq_false, not_false_eq_true, false_implies, Prod.mk.injEq, Fin.val_zero, Fin.val_one, Fin.isValue, Fin.reduceFinMk, Fin.val_two, mR_uI, mK_uI, mN_uI, mI_uR, mK_uR, mN_uR, mR_uC, mK_uC, mN_uC, Option.some.injEq, Sum.inl.injEq, Sum.inr.injEq, decide_true, decide_false, Bool.or_false, Bool.false_or, Bool.or_true, Bool.true_or, Nat.reduceBEq, beq_self_eq_true, show tb 3 = tb_3 from rfl, tb_3, tb_3_0, mZ_uN, mS_uN, mZ_uR, mS_uR, hz, k1, k2]
  (repeat' (first | with_reducible apply And.intro | with_reducible intro _)) <;> (try omega)
  all_goals first | exact hL | rfl
/-! more constructors -/
theorem Cn.lay {M M' : Mem} {n n' k m : Nat} {f : Nat → Cel} (h : Cn M n f) (hn : n < n') (hL : Laid (uN M k m) M' n n') (hz : mZ M' = n') : Cn M' n' (fun a => if n ≤ a ∧ a < n' then LC a else f a) := by
  refine ⟨hz, fun a => ?_⟩
  show cl M' a = if n ≤ a ∧ a < n' then LC a else f a
  by_cases ha : n ≤ a ∧ a < n'
  · rw [if_pos ha]
    exact hL.1 a ha.1 ha.2
  · rw [if_neg ha, hL.2 a ha, (h.nN k m).e a, if_neg (by omega)]
theorem Cn.cv {M : Mem} {n : Nat} {f g : Nat → Cel} (h : Cn M n f) (hfg : ∀ a, f a = g a) : Cn M n g := ⟨h.1, fun a => (h.2 a).trans (hfg a)⟩
set_option maxRecDepth 100000 in
set_option maxHeartbeats 4000000 in
theorem e_newRd (X : CX) (M : Mem) (p : Nat) : Ev X y_Reader_init (0, 0) [aR (some p)] M (fun r M' => r = none ∧ ∀ a, cl M' a = cl M a) := by
  have hL : ∀ a, cl (uS M (mS M + 0)) a = cl M a := fun a => rfl
  have hL2 : ∀ a, cl (uS M (mS M)) a = cl M a := fun a => rfl
  refine Ev_of mcd_2 mok_2 (by decide) rfl (Nat.le_of_ble_eq_true rfl) ?_
  rw [show yl 2 = 1 from rfl]
  refine G_w (pf0_ok X) LK_2 (fun i => false) 20 _ _ _ _ ?_
  simp only [f_0, f_s, f_iconst, f_bipush, f_sipush, f_ldc, f_ldc_w, f_ldc2_w, f_ldI, f_ldL, f_ldA, f_iload, f_iload_n, f_lload, f_lload_n, f_aload, f_aload_n, f_istore, f_istore_n, f_lstore, f_lstore_n, f_astore, f_astore_n, f_iinc, f_icI, f_iadd, f_isub, f_imul, f_idiv, f_irem, f_iand, f_ior, f_ixor, f_ishl, f_ishr, f_iushr, f_i2l, f_i2b, f_i2s, f_ladd, f_lmul, f_lcmp, f_dupI, f_dupR, f_dup2, f_pop, f_goto, f_if, f_icmp, f_tab, f_ts0, f_ts1, f_getI, f_getZ, f_getR, f_putI, f_putR, f_gets, f_iald, f_bald, f_aald, f_iast, f_bast, f_aast, f_alen, f_new, f_newa, f_anew, f_virt, f_stat0, f_stat1, f_spec0, f_spec1, f_spec9, f_copy, f_max, f_min, f_cV1, f_cV0, f_cS1, f_cS0, f_iret, f_lret, f_vret, f_kG, pf0, cIg, inR, lget, lset, lset2, clr, entL, cnd, psh, catS, tsw, List.take_succ_cons, List.take_zero, List.drop_succ_cons, List.drop_zero, List.reverse_cons, List.reverse_nil, List.nil_append, List.cons_append, List.length_cons, List.length_nil, List.replicate_succ, List.replicate_zero, Nat.reduceAdd, Nat.reduceSub, Nat.reduceLeDiff, Nat.reduceLT, Nat.reduceEqDiff, Nat.reduceMul, Nat.zero_add, Nat.add_zero, Nat.le_refl, Nat.zero_le, Int.reduceEq, Int.reduceToNat, Int.toNat_natCast, Int.reduceNeg, Int.reduceAdd, Int.reduceSub, Int.reduceMul, Int.reduceLT, Int.reduceLE, Int.reduceDiv, Int.reduceMod, Bool.false_eq_true, ↓reduceIte, true_and, and_true, implies_true, forall_const, true_or, or_true, or_false, false_or, not_true_eq_false, not_false_eq_true, false_implies, Prod.mk.injEq, Fin.val_zero, Fin.val_one, Fin.isValue, Fin.reduceFinMk, Fin.val_two, mR_uI, mK_uI, mN_uI, mI_uR, mK_uR, mN_uR, mR_uC, mK_uC, mN_uC, Option.some.injEq, Sum.inl.injEq, Sum.inr.injEq, decide_true, decide_false, Bool.or_false, Bool.false_or, Bool.or_true, Bool.true_or, Nat.reduceBEq, beq_self_eq_true, show tb 2 = tb_2 from rfl, tb_2, tb_2_0]
  (repeat' (first | with_reducible apply And.intro | with_reducible intro _)) <;> (try omega)
  all_goals first | exact hL | exact hL2 | rfl
set_option maxRecDepth 100000 in
set_option maxHeartbeats 4000000 in
theorem e_newD (X : CX) (M : Mem) (hz : mZ M = 12) (hc : cl M 11 = arr 6 2) : Ev X y_Display_init (1, 360) [aR (some 11)] M (fun r M' => r = none ∧ Laid M M' 11 13) := by
  have big : 900000 < BIG := Nat.le_of_ble_eq_true rfl
  have c0 := Cn.st hz
  have c1 := c0.nN 20 360
  have c2 := (c1.nR 11 0 (some 12)).nS (mS M + 360)
  have k1 : mK (uN M 20 360) 11 = 6 := by rw [c1.k, if_neg (by omega), hc]; rfl
  have hL : Laid M (uS (uR (uN M 20 360) 11 0 (some 12)) (mS M + 360)) 11 13 := by
    refine ⟨fun a h1 h2 => ?_, fun a h => ?_⟩
    · rw [c2.e a]
      rcases (show a = 11 ∨ a = 12 by omega) with rfl | rfl
      · rw [if_pos rfl, if_neg (by omega), hc]
        refine cel_ext rfl rfl (fun j => ?_) (fun j => (SI_0 (by decide) (by decide) j).symm)
        exact (SRR_o (a := 11) (by decide) j).symm
      · rw [if_neg (by omega), if_pos rfl, LC_a (a := 12) (n := 360) (by decide) (by decide)]
    · rw [c2.e a, if_neg (by omega), if_neg (by omega)]
  refine Ev_of mcd_4 mok_4 (by decide) rfl (Nat.le_of_ble_eq_true rfl) ?_
  rw [show yl 4 = 1 from rfl]
  refine G_w (pf0_ok X) LK_4 (fun i => false) 20 _ _ _ _ ?_
  simp only [f_0, f_s, f_iconst, f_bipush, f_sipush, f_ldc, f_ldc_w, f_ldc2_w, f_ldI, f_ldL, f_ldA, f_iload, f_iload_n, f_lload, f_lload_n, f_aload, f_aload_n, f_istore, f_istore_n, f_lstore, f_lstore_n, f_astore, f_astore_n, f_iinc, f_icI, f_iadd, f_isub, f_imul, f_idiv, f_irem, f_iand, f_ior, f_ixor, f_ishl, f_ishr, f_iushr, f_i2l, f_i2b, f_i2s, f_ladd, f_lmul, f_lcmp, f_dupI, f_dupR, f_dup2, f_pop, f_goto, f_if, f_icmp, f_tab, f_ts0, f_ts1, f_getI, f_getZ, f_getR, f_putI, f_putR, f_gets, f_iald, f_bald, f_aald, f_iast, f_bast, f_aast, f_alen, f_new, f_newa, f_anew, f_virt, f_stat0, f_stat1, f_spec0, f_spec1, f_spec9, f_copy, f_max, f_min, f_cV1, f_cV0, f_cS1, f_cS0, f_iret, f_lret, f_vret, f_kG, pf0, cIg, inR, lget, lset, lset2, clr, entL, cnd, psh, catS, tsw, List.take_succ_cons, List.take_zero, List.drop_succ_cons, List.drop_zero, List.reverse_cons, List.reverse_nil, List.nil_append, List.cons_append, List.length_cons, List.length_nil, List.replicate_succ, List.replicate_zero, Nat.reduceAdd, Nat.reduceSub, Nat.reduceLeDiff, Nat.reduceLT, Nat.reduceEqDiff, Nat.reduceMul, Nat.zero_add, Nat.add_zero, Nat.le_refl, Nat.zero_le, Int.reduceEq, Int.reduceToNat, Int.toNat_natCast, Int.reduceNeg, Int.reduceAdd, Int.reduceSub, Int.reduceMul, Int.reduceLT, Int.reduceLE, Int.reduceDiv, Int.reduceMod, Bool.false_eq_true, ↓reduceIte, true_and, and_true, implies_true, forall_const, true_or, or_true, or_false, false_or, not_true_eq_false, not_false_eq_true, false_implies, Prod.mk.injEq, Fin.val_zero, Fin.val_one, Fin.isValue, Fin.reduceFinMk, Fin.val_two, mR_uI, mK_uI, mN_uI, mI_uR, mK_uR, mN_uR, mR_uC, mK_uC, mN_uC, Option.some.injEq, Sum.inl.injEq, Sum.inr.injEq, decide_true, decide_false, Bool.or_false, Bool.false_or, Bool.or_true, Bool.true_or, Nat.reduceBEq, beq_self_eq_true, show tb 4 = tb_4 from rfl, tb_4, tb_4_0, mZ_uN, mS_uN, mZ_uR, mS_uR, hz, k1]
  (repeat' (first | with_reducible apply And.intro | with_reducible intro _)) <;> (try omega)
  all_goals first | exact hL | rfl
set_option maxRecDepth 100000 in
set_option maxHeartbeats 4000000 in
theorem e_newT (X : CX) (M : Mem) (p most : Nat) (hp : p < 1000) (hm : most ≤ 30) (hz : mZ M = p + 1) (hk : SK p = 1 ∧ SN0 p = 3 ∧ SK (p + 1) = 20 ∧ SN0 (p + 1) = most) (hc : cl M p = arr 1 3) : Ev X y_Text_init (1, 30) [aR (some p), aI most] M (fun r M' => r = none ∧ Laid M M' p (p + 2)) := by
  have big : 900000 < BIG := Nat.le_of_ble_eq_true rfl
  obtain ⟨q1, q2, q3, q4⟩ := hk
  have c0 := (Cn.st hz).nI p 2 (-1)
  have c1 := c0.nN 20 most
  have c2 := (c1.nR p 0 (some (p + 1))).nS (mS M + 30)
  have k0 : mK M p = 1 := congrArg (fun c : Cel => c.1) hc
  have k1 : mK (uN (uI M p 2 (-1)) 20 most) p = 1 := by rw [c1.k, if_neg (by omega), if_pos rfl, hc]; rfl
  have hL : Laid M (uS (uR (uN (uI M p 2 (-1)) 20 most) p 0 (some (p + 1))) (mS M + 30)) p (p + 2) := by
    refine ⟨fun a h1 h2 => ?_, fun a h => ?_⟩
    · rw [c2.e a]
      rcases (show a = p ∨ a = p + 1 by omega) with rfl | rfl
      · rw [if_pos rfl, if_neg (by omega), if_pos rfl, hc]
        refine cel_ext q1.symm q2.symm (fun j => (SRR_o (Or.inl q1) j).symm) (fun j => ?_)
        show (if j = 2 then -1 else 0) = SI a j
        unfold SI
        by_cases j2 : j = 2
        · rw [if_pos j2, if_pos ⟨q1, j2⟩]
        · rw [if_neg j2, if_neg (fun h => j2 h.2), if_neg (fun h => by omega)]
      · rw [if_neg (by omega), if_pos rfl, LC_a q3 q4]
    · rw [c2.e a, if_neg (by omega), if_neg (by omega), if_neg (by omega)]
  refine Ev_of mcd_5 mok_5 (by decide) rfl (Nat.le_of_ble_eq_true rfl) ?_
  rw [show yl 5 = 2 from rfl]
  refine G_w (pf0_ok X) LK_5 (fun i => false) 20 _ _ _ _ ?_
  simp only [f_0, f_s, f_iconst, f_bipush, f_sipush, f_ldc, f_ldc_w, f_ldc2_w, f_ldI, f_ldL, f_ldA, f_iload, f_iload_n, f_lload, f_lload_n, f_aload, f_aload_n, f_istore, f_istore_n, f_lstore, f_lstore_n, f_astore, f_astore_n, f_iinc, f_icI, f_iadd, f_isub, f_imul, f_idiv, f_irem, f_iand, f_ior, f_ixor, f_ishl, f_ishr, f_iushr, f_i2l, f_i2b, f_i2s, f_ladd, f_lmul, f_lcmp, f_dupI, f_dupR, f_dup2, f_pop, f_goto, f_if, f_icmp, f_tab, f_ts0, f_ts1, f_getI, f_getZ, f_getR, f_putI, f_putR, f_gets, f_iald, f_bald, f_aald, f_iast, f_bast, f_aast, f_alen, f_new, f_newa, f_anew, f_virt, f_stat0, f_stat1, f_spec0, f_spec1, f_spec9, f_copy, f_max, f_min, f_cV1, f_cV0, f_cS1, f_cS0, f_iret, f_lret, f_vret, f_kG, pf0, cIg, inR, lget, lset, lset2, clr, entL, cnd, psh, catS, tsw, List.take_succ_cons, List.take_zero, List.drop_succ_cons, List.drop_zero, List.reverse_cons, List.reverse_nil, List.nil_append, List.cons_append, List.length_cons, List.length_nil, List.replicate_succ, List.replicate_zero, Nat.reduceAdd, Nat.reduceSub, Nat.reduceLeDiff, Nat.reduceLT, Nat.reduceEqDiff, Nat.reduceMul, Nat.zero_add, Nat.add_zero, Nat.le_refl, Nat.zero_le, Int.reduceEq, Int.reduceToNat, Int.toNat_natCast, Int.reduceNeg, Int.reduceAdd, Int.reduceSub, Int.reduceMul, Int.reduceLT, Int.reduceLE, Int.reduceDiv, Int.reduceMod, Bool.false_eq_true, ↓reduceIte, true_and, and_true, implies_true, forall_const, true_or, or_true, or_false, false_or, not_true_eq_false, not_false_eq_true, false_implies, Prod.mk.injEq, Fin.val_zero, Fin.val_one, Fin.isValue, Fin.reduceFinMk, Fin.val_two, mR_uI, mK_uI, mN_uI, mI_uR, mK_uR, mN_uR, mR_uC, mK_uC, mN_uC, Option.some.injEq, Sum.inl.injEq, Sum.inr.injEq, decide_true, decide_false, Bool.or_false, Bool.false_or, Bool.or_true, Bool.true_or, Nat.reduceBEq, beq_self_eq_true, show tb 5 = tb_5 from rfl, tb_5, tb_5_0, mZ_uN, mS_uN, mZ_uR, mS_uR, mZ_uI, mS_uI, hz, k0, k1]
  (repeat' (first | with_reducible apply And.intro | with_reducible intro _)) <;> (try omega)
  all_goals first | exact hL | rfl
set_option maxRecDepth 100000 in
set_option maxHeartbeats 4000000 in
theorem e_newS (X : CX) (M : Mem) (p : Nat) (hp : p < 1000) (hz : mZ M = p + 1) (hk : SK p = 7 ∧ SN0 p = 3 ∧ SK (p + 1) = 20 ∧ SN0 (p + 1) = 60) (hc : cl M p = arr 7 3) : Ev X y_Sheet_init (1, 60) [aR (some p)] M (fun r M' => r = none ∧ Laid M M' p (p + 2)) := by
  have big : 900000 < BIG := Nat.le_of_ble_eq_true rfl
  obtain ⟨q1, q2, q3, q4⟩ := hk
  have c0 := Cn.st hz
  have c1 := c0.nN 20 60
  have c2 := ((c1.nR p 0 (some (p + 1))).nI p 1 (-1)).nS (mS M + 60)
  have k1 : mK (uN M 20 60) p = 7 := by rw [c1.k, if_neg (by omega), hc]; rfl
  have hL : Laid M (uS (uI (uR (uN M 20 60) p 0 (some (p + 1))) p 1 (-1)) (mS M + 60)) p (p + 2) := by
    refine ⟨fun a h1 h2 => ?_, fun a h => ?_⟩
    · rw [c2.e a]
      rcases (show a = p ∨ a = p + 1 by omega) with rfl | rfl
      · rw [if_pos rfl, if_pos rfl, if_neg (by omega), hc]
        refine cel_ext q1.symm q2.symm (fun j => (SRR_o (Or.inr (Or.inl q1)) j).symm) (fun j => ?_)
        show (if j = 1 then -1 else 0) = SI a j
        unfold SI
        by_cases j2 : j = 1
        · rw [if_pos j2, if_neg (fun h => by omega), if_pos ⟨q1, j2⟩]
        · rw [if_neg j2, if_neg (fun h => by omega), if_neg (fun h => j2 h.2)]
      · rw [if_neg (by omega), if_neg (by omega), if_pos rfl, LC_a q3 q4]
    · rw [c2.e a, if_neg (by omega), if_neg (by omega), if_neg (by omega)]
  refine Ev_of mcd_6 mok_6 (by decide) rfl (Nat.le_of_ble_eq_true rfl) ?_
  rw [show yl 6 = 1 from rfl]
  refine G_w (pf0_ok X) LK_6 (fun i => false) 20 _ _ _ _ ?_
  simp only [f_0, f_s, f_iconst, f_bipush, f_sipush, f_ldc, f_ldc_w, f_ldc2_w, f_ldI, f_ldL, f_ldA, f_iload, f_iload_n, f_lload, f_lload_n, f_aload, f_aload_n, f_istore, f_istore_n, f_lstore, f_lstore_n, f_astore, f_astore_n, f_iinc, f_icI, f_iadd, f_isub, f_imul, f_idiv, f_irem, f_iand, f_ior, f_ixor, f_ishl, f_ishr, f_iushr, f_i2l, f_i2b, f_i2s, f_ladd, f_lmul, f_lcmp, f_dupI, f_dupR, f_dup2, f_pop, f_goto, f_if, f_icmp, f_tab, f_ts0, f_ts1, f_getI, f_getZ, f_getR, f_putI, f_putR, f_gets, f_iald, f_bald, f_aald, f_iast, f_bast, f_aast, f_alen, f_new, f_newa, f_anew, f_virt, f_stat0, f_stat1, f_spec0, f_spec1, f_spec9, f_copy, f_max, f_min, f_cV1, f_cV0, f_cS1, f_cS0, f_iret, f_lret, f_vret, f_kG, pf0, cIg, inR, lget, lset, lset2, clr, entL, cnd, psh, catS, tsw, List.take_succ_cons, List.take_zero, List.drop_succ_cons, List.drop_zero, List.reverse_cons, List.reverse_nil, List.nil_append, List.cons_append, List.length_cons, List.length_nil, List.replicate_succ, List.replicate_zero, Nat.reduceAdd, Nat.reduceSub, Nat.reduceLeDiff, Nat.reduceLT, Nat.reduceEqDiff, Nat.reduceMul, Nat.zero_add, Nat.add_zero, Nat.le_refl, Nat.zero_le, Int.reduceEq, Int.reduceToNat, Int.toNat_natCast, Int.reduceNeg, Int.reduceAdd, Int.reduceSub, Int.reduceMul, Int.reduceLT, Int.reduceLE, Int.reduceDiv, Int.reduceMod, Bool.false_eq_true, ↓reduceIte, true_and, and_true, implies_true, forall_const, true_or, or_true, or_false, false_or, not_true_eq_false, not_false_eq_true, false_implies, Prod.mk.injEq, Fin.val_zero, Fin.val_one, Fin.isValue, Fin.reduceFinMk, Fin.val_two, mR_uI, mK_uI, mN_uI, mI_uR, mK_uR, mN_uR, mR_uC, mK_uC, mN_uC, Option.some.injEq, Sum.inl.injEq, Sum.inr.injEq, decide_true, decide_false, Bool.or_false, Bool.false_or, Bool.or_true, Bool.true_or, Nat.reduceBEq, beq_self_eq_true, show tb 6 = tb_6 from rfl, tb_6, tb_6_0, mZ_uN, mS_uN, mZ_uR, mS_uR, mZ_uI, mS_uI, hz, k1]
  (repeat' (first | with_reducible apply And.intro | with_reducible intro _)) <;> (try omega)
  all_goals first | exact hL | rfl
/-! rows -/
def okRw (r n : Nat) : Prop := (r = 59 ∧ n = 100) ∨ ((r = 362 ∨ r = 442) ∧ n = 24)
theorem row_p1 : (List.range 100).all (fun i => decide (SK (61 + 3 * i) = 2)) = true := by decide +kernel
theorem row_p2 : (List.range 24).all (fun i => decide (SK (364 + 3 * i) = 2) && decide (SK (444 + 3 * i) = 2)) = true := by decide +kernel
theorem row_f {r n : Nat} (h : okRw r n) : SK r = 4 ∧ SN0 r = 2 ∧ SK (r + 1) = 32 ∧ SN0 (r + 1) = n ∧ (∀ i, i < n → SK (r + 2 + 3 * i) = 2) ∧ (∀ k, SRR (r + 1) k = if k < n then some (r + 2 + 3 * k) else none) ∧ r < 500 ∧ n ≤ 100 ∧ 24 ≤ n := by
  rcases h with ⟨rfl, rfl⟩ | ⟨rfl | rfl, rfl⟩
  · exact ⟨by decide, by decide, by decide, by decide, fun i hi => of_decide_eq_true (List.all_eq_true.mp row_p1 i (List.mem_range.mpr hi)), fun k => rfl, by omega, by omega, by omega⟩
  · refine ⟨by decide, by decide, by decide, by decide, fun i hi => ?_, fun k => rfl, by omega, by omega, by omega⟩
    have h9 := List.all_eq_true.mp row_p2 i (List.mem_range.mpr hi)
    simp only [Bool.and_eq_true, decide_eq_true_eq] at h9
    exact h9.1
  · refine ⟨by decide, by decide, by decide, by decide, fun i hi => ?_, fun k => rfl, by omega, by omega, by omega⟩
    have h9 := List.all_eq_true.mp row_p2 i (List.mem_range.mpr hi)
    simp only [Bool.and_eq_true, decide_eq_true_eq] at h9
    exact h9.2
theorem LC_r {r n : Nat} (h : okRw r n) : LC r = upC (arr 4 2) 0 (some (r + 1)) ∧ LC (r + 1) = (32, n, fun k => if k < n then some (r + 2 + 3 * k) else none, fun _ => 0) := by
  obtain ⟨f1, f2, f3, f4, f5, f6, f7, f8, f9⟩ := row_f h
  exact ⟨cel_ext f1 f2 (fun k => SRR_o (Or.inr (Or.inr (Or.inl f1))) k) (fun j => SI_0 (a := r) (by omega) (by omega) j), cel_ext f3 f4 f6 (fun j => SI_0 (a := r + 1) (by omega) (by omega) j)⟩
/-- a row with i of its polynomials made -/
def Rf (M : Mem) (r n i : Nat) (a : Nat) : Cel := if a = r then upC (arr 4 2) 0 (some (r + 1)) else if a = r + 1 then (32, n, fun k => if k < i then some (r + 2 + 3 * k) else none, fun _ => 0) else if r + 2 ≤ a ∧ a < r + 2 + 3 * i then LC a else cl M a
set_option maxRecDepth 100000 in
set_option maxHeartbeats 4000000 in
theorem e_newR (X : CX) (M : Mem) (r n : Nat) (h : okRw r n) (hz : mZ M = r + 1) (hc : cl M r = arr 4 2) : Ev X y_Row_init (1 + 3 * n, 66 * n) [aR (some r), aI n] M (fun q M' => q = none ∧ Laid M M' r (r + 2 + 3 * n)) := by
  have big : 900000 < BIG := Nat.le_of_ble_eq_true rfl
  obtain ⟨f1, f2, f3, f4, f5, f6, f7, f8, f9⟩ := row_f h
  have loop : ∀ (d i : Nat) (M1 : Mem), i + d = n → Cn M1 (r + 2 + 3 * i) (Rf M r n i) → mS M1 = mS M + n + 65 * i → G X y_Row_init (mZ M, mS M, 1 + 3 * n, 66 * n) 8 [some (aR (some r)), some (aI n), some (aI i)] [] M1 (fun q M' => q = none ∧ Laid M M' r (r + 2 + 3 * n)) := by
    intro d
    induction d with
    | zero =>
      intro i M1 hi hC hS
      have hin : i = n := by omega
      subst hin
      have hge : (i : Int) ≤ (i : Int) := Int.le_refl _
      have hL : Laid M (uS M1 (mS M + 66 * i)) r (r + 2 + 3 * i) := by
        obtain ⟨l1, l2⟩ := LC_r h
        have c9 := hC.nS (mS M + 66 * i)
        refine ⟨fun a h1 h2 => ?_, fun a h9 => ?_⟩
        · rw [c9.e a]
          unfold Rf
          by_cases a1 : a = r
          · rw [if_pos a1, a1, l1]
          · by_cases a2 : a = r + 1
            · rw [if_neg a1, if_pos a2, a2, l2]
            · rw [if_neg a1, if_neg a2, if_pos (by omega)]
        · rw [c9.e a]
          unfold Rf
          rw [if_neg (by omega), if_neg (by omega), if_neg (by omega)]
      have hz1 := hC.1
      refine G_w (pf0_ok X) LK_7 (fun i => false) 20 _ _ _ _ ?_
      simp only [f_0, f_s, f_iconst, f_bipush, f_sipush, f_ldc, f_ldc_w, f_ldc2_w, f_ldI, f_ldL, f_ldA, f_iload, f_iload_n, f_lload, f_lload_n, f_aload, f_aload_n, f_istore, f_istore_n, f_lstore, f_lstore_n, f_astore, f_astore_n, f_iinc, f_icI, f_iadd, f_isub, f_imul, f_idiv, f_irem, f_iand, f_ior, f_ixor, f_ishl, f_ishr, f_iushr, f_i2l, f_i2b, f_i2s, f_ladd, f_lmul, f_lcmp, f_dupI, f_dupR, f_dup2, f_pop, f_goto, f_if, f_icmp, f_tab, f_ts0, f_ts1, f_getI, f_getZ, f_getR, f_putI, f_putR, f_gets, f_iald, f_bald, f_aald, f_iast, f_bast, f_aast, f_alen, f_new, f_newa, f_anew, f_virt, f_stat0, f_stat1, f_spec0, f_spec1, f_spec9, f_copy, f_max, f_min, f_cV1, f_cV0, f_cS1, f_cS0, f_iret, f_lret, f_vret, f_kG, pf0, cIg, inR, lget, lset, lset2, clr, entL, cnd, psh, catS, tsw, List.take_succ_cons, List.take_zero, List.drop_succ_cons, List.drop_zero, List.reverse_cons, List.reverse_nil, List.nil_append, List.cons_append, List.length_cons, List.length_nil, List.replicate_succ, List.replicate_zero, Nat.reduceAdd, Nat.reduceSub, Nat.reduceLeDiff, Nat.reduceLT, Nat.reduceEqDiff, Nat.reduceMul, Nat.zero_add, Nat.add_zero, Nat.le_refl, Nat.zero_le, Int.reduceEq, Int.reduceToNat, Int.toNat_natCast, Int.reduceNeg, Int.reduceAdd, Int.reduceSub, Int.reduceMul, Int.reduceLT, Int.reduceLE, Int.reduceDiv, Int.reduceMod, Bool.false_eq_true, ↓reduceIte, true_and, and_true, implies_true, forall_const, true_or, or_true, or_false, false_or, not_true_eq_false, not_false_eq_true, false_implies, Prod.mk.injEq, Fin.val_zero, Fin.val_one, Fin.isValue, Fin.reduceFinMk, Fin.val_two, mR_uI, mK_uI, mN_uI, mI_uR, mK_uR, mN_uR, mR_uC, mK_uC, mN_uC, Option.some.injEq, Sum.inl.injEq, Sum.inr.injEq, decide_true, decide_false, Bool.or_false, Bool.false_or, Bool.or_true, Bool.true_or, Nat.reduceBEq, beq_self_eq_true, show tb 7 = tb_7 from rfl, tb_7, tb_7_0, hge, hz1]
      (repeat' (first | with_reducible apply And.intro | with_reducible intro _)) <;> (try omega)
      all_goals first | exact hL | rfl
    | succ d ih =>
      intro i M1 hi hC hS
      have hge : ¬ (n : Int) ≤ (i : Int) := by omega
      have hz1 := hC.1
      have k0 : mK M1 r = 4 := by rw [hC.k, Rf, if_pos rfl]; rfl
      have r0 : mR M1 r 0 = some (r + 1) := by rw [hC.r, Rf, if_pos rfl]; rfl
      have kn : mK (uN M1 2 5) r = 4 := by rw [mK_uN, if_neg (by omega)]; exact k0
      refine G_w (pf0_ok X) LK_7 (fun i => false) 20 _ _ _ _ ?_
      simp only [f_0, f_s, f_iconst, f_bipush, f_sipush, f_ldc, f_ldc_w, f_ldc2_w, f_ldI, f_ldL, f_ldA, f_iload, f_iload_n, f_lload, f_lload_n, f_aload, f_aload_n, f_istore, f_istore_n, f_lstore, f_lstore_n, f_astore, f_astore_n, f_iinc, f_icI, f_iadd, f_isub, f_imul, f_idiv, f_irem, f_iand, f_ior, f_ixor, f_ishl, f_ishr, f_iushr, f_i2l, f_i2b, f_i2s, f_ladd, f_lmul, f_lcmp, f_dupI, f_dupR, f_dup2, f_pop, f_goto, f_if, f_icmp, f_tab, f_ts0, f_ts1, f_getI, f_getZ, f_getR, f_putI, f_putR, f_gets, f_iald, f_bald, f_aald, f_iast, f_bast, f_aast, f_alen, f_new, f_newa, f_anew, f_virt, f_stat0, f_stat1, f_spec0, f_spec1, f_spec9, f_copy, f_max, f_min, f_cV1, f_cV0, f_cS1, f_cS0, f_iret, f_lret, f_vret, f_kG, pf0, cIg, inR, lget, lset, lset2, clr, entL, cnd, psh, catS, tsw, List.take_succ_cons, List.take_zero, List.drop_succ_cons, List.drop_zero, List.reverse_cons, List.reverse_nil, List.nil_append, List.cons_append, List.length_cons, List.length_nil, List.replicate_succ, List.replicate_zero, Nat.reduceAdd, Nat.reduceSub, Nat.reduceLeDiff, Nat.reduceLT, Nat.reduceEqDiff, Nat.reduceMul, Nat.zero_add, Nat.add_zero, Nat.le_refl, Nat.zero_le, Int.reduceEq, Int.reduceToNat, Int.toNat_natCast, Int.reduceNeg, Int.reduceAdd, Int.reduceSub, Int.reduceMul, Int.reduceLT, Int.reduceLE, Int.reduceDiv, Int.reduceMod, Bool.false_eq_true, ↓reduceIte, true_and, and_true, implies_true, forall_const, true_or, or_true, or_false, false_or, not_true_eq_false, not_false_eq_true, false_implies, Prod.mk.injEq, Fin.val_zero, Fin.val_one, Fin.isValue, Fin.reduceFinMk, Fin.val_two, mR_uI, mK_uI, mN_uI, mI_uR, mK_uR, mN_uR, mR_uC, mK_uC, mN_uC, Option.some.injEq, Sum.inl.injEq, Sum.inr.injEq, decide_true, decide_false, Bool.or_false, Bool.false_or, Bool.or_true, Bool.true_or, Nat.reduceBEq, beq_self_eq_true, show tb 7 = tb_7 from rfl, tb_7, tb_7_0, mZ_uN, mS_uN, hge, hz1, k0, r0]
      (repeat' (first | with_reducible apply And.intro | with_reducible intro _)) <;> (try omega)
      refine ⟨(2, 60), ⟨by simp only []; omega, by simp only []; omega⟩, Ev_mono (e_newP X (uN M1 2 5) (r + 2 + 3 * i) (by omega) (by rw [mZ_uN, hz1]) (f5 i (by omega)) (by rw [cl_uN, if_pos hz1.symm])) (fun q M2 hr z2 s2 => ?_)⟩
      obtain ⟨rfl, hL2⟩ := hr
      rw [mZ_uN, hz1] at z2
      rw [mS_uN] at s2
      have c2 := hC.lay (by omega) hL2 z2
      have k1 : mK M2 (r + 1) = 32 := by rw [c2.k, if_neg (by omega), Rf, if_neg (by omega), if_pos rfl]
      have n1 : mN M2 (r + 1) = n := by rw [c2.l, if_neg (by omega), Rf, if_neg (by omega), if_pos rfl]
      have k2 : mK M2 (r + 2 + 3 * i) = 2 := by rw [c2.k, if_pos (by omega)]; exact f5 i (by omega)
      have c3 := (c2.nR (r + 1) i (some (r + 2 + 3 * i)))
      have c4 : Cn (uR M2 (r + 1) i (some (r + 2 + 3 * i))) (r + 2 + 3 * (i + 1)) (Rf M r n (i + 1)) := by
        refine ⟨by rw [c3.1]; omega, fun a => ?_⟩
        rw [c3.e a]
        by_cases a2 : a = r + 1
        · subst a2
          rw [if_pos rfl, if_neg (by omega), Rf, Rf, if_neg (by omega), if_pos rfl, if_neg (by omega), if_pos rfl]
          refine cel_ext rfl rfl (fun k => ?_) (fun j => rfl)
          show (if k = i then some (r + 2 + 3 * i) else if k < i then some (r + 2 + 3 * k) else none) = if k < i + 1 then some (r + 2 + 3 * k) else none
          by_cases ki : k = i
          · rw [if_pos ki, if_pos (by omega), ki]
          · rw [if_neg ki]
            by_cases k2 : k < i
            · rw [if_pos k2, if_pos (by omega)]
            · rw [if_neg k2, if_neg (by omega)]
        · rw [if_neg a2]
          by_cases a1 : a = r
          · rw [if_neg (by omega), Rf, Rf, if_pos a1, if_pos a1]
          · by_cases a3 : r + 2 + 3 * i ≤ a ∧ a < r + 2 + 3 * i + 3
            · rw [if_pos a3, Rf, if_neg a1, if_neg a2, if_pos (by omega)]
            · rw [if_neg a3, Rf, Rf, if_neg a1, if_neg a2, if_neg a1, if_neg a2]
              by_cases a4 : r + 2 ≤ a ∧ a < r + 2 + 3 * i
              · rw [if_pos a4, if_pos (by omega)]
              · rw [if_neg a4, if_neg (by omega)]
      have h9 := ih (i + 1) _ (by omega) c4 (by rw [mS_uR]; omega)
      simp only [f_kG, psh, Nat.reduceAdd]
      refine G_w (pf0_ok X) LK_7 (fun i => i == 8) 20 _ _ _ _ ?_
      simp only [f_0, f_s, f_iconst, f_bipush, f_sipush, f_ldc, f_ldc_w, f_ldc2_w, f_ldI, f_ldL, f_ldA, f_iload, f_iload_n, f_lload, f_lload_n, f_aload, f_aload_n, f_istore, f_istore_n, f_lstore, f_lstore_n, f_astore, f_astore_n, f_iinc, f_icI, f_iadd, f_isub, f_imul, f_idiv, f_irem, f_iand, f_ior, f_ixor, f_ishl, f_ishr, f_iushr, f_i2l, f_i2b, f_i2s, f_ladd, f_lmul, f_lcmp, f_dupI, f_dupR, f_dup2, f_pop, f_goto, f_if, f_icmp, f_tab, f_ts0, f_ts1, f_getI, f_getZ, f_getR, f_putI, f_putR, f_gets, f_iald, f_bald, f_aald, f_iast, f_bast, f_aast, f_alen, f_new, f_newa, f_anew, f_virt, f_stat0, f_stat1, f_spec0, f_spec1, f_spec9, f_copy, f_max, f_min, f_cV1, f_cV0, f_cS1, f_cS0, f_iret, f_lret, f_vret, f_kG, pf0, cIg, inR, lget, lset, lset2, clr, entL, cnd, psh, catS, tsw, List.take_succ_cons, List.take_zero, List.drop_succ_cons, List.drop_zero, List.reverse_cons, List.reverse_nil, List.nil_append, List.cons_append, List.length_cons, List.length_nil, List.replicate_succ, List.replicate_zero, Nat.reduceAdd, Nat.reduceSub, Nat.reduceLeDiff, Nat.reduceLT, Nat.reduceEqDiff, Nat.reduceMul, Nat.zero_add, Nat.add_zero, Nat.le_refl, Nat.zero_le, Int.reduceEq, Int.reduceToNat, Int.toNat_natCast, Int.reduceNeg, Int.reduceAdd, Int.reduceSub, Int.reduceMul, Int.reduceLT, Int.reduceLE, Int.reduceDiv, Int.reduceMod, Bool.false_eq_true, ↓reduceIte, true_and, and_true, implies_true, forall_const, true_or, or_true, or_false, false_or, not_true_eq_false, not_false_eq_true, false_implies, Prod.mk.injEq, Fin.val_zero, Fin.val_one, Fin.isValue, Fin.reduceFinMk, Fin.val_two, mR_uI, mK_uI, mN_uI, mI_uR, mK_uR, mN_uR, mR_uC, mK_uC, mN_uC, Option.some.injEq, Sum.inl.injEq, Sum.inr.injEq, decide_true, decide_false, Bool.or_false, Bool.false_or, Bool.or_true, Bool.true_or, Nat.reduceBEq, beq_self_eq_true, show tb 7 = tb_7 from rfl, tb_7, tb_7_0, k1, n1, k2]
      (repeat' (first | with_reducible apply And.intro | with_reducible intro _)) <;> (try omega)
      all_goals exact h9
  have c0 := Cn.st hz
  have c1 := c0.nN 32 n
  have c2 := c1.nR r 0 (some (r + 1))
  have k1 : mK (uN M 32 n) r = 4 := by rw [c1.k, if_neg (by omega), hc]; rfl
  have c3 : Cn (uR (uN M 32 n) r 0 (some (r + 1))) (r + 2 + 3 * 0) (Rf M r n 0) := by
    refine ⟨c2.1, fun a => ?_⟩
    rw [c2.e a]
    by_cases a1 : a = r
    · rw [if_pos a1, if_neg (by omega), Rf, if_pos a1, hc]
    · rw [if_neg a1, Rf, if_neg a1]
      by_cases a2 : a = r + 1
      · rw [if_pos a2, if_pos a2]
        refine cel_ext rfl rfl (fun k => ?_) (fun j => rfl)
        show none = if k < 0 then some (r + 2 + 3 * k) else none
        rw [if_neg (by omega)]
      · rw [if_neg a2, if_neg a2, if_neg (by omega)]
  have h9 := loop n 0 _ (by omega) c3 (by rw [mS_uR, mS_uN]; omega)
  rw [hz] at h9
  refine Ev_of mcd_7 mok_7 (by decide) rfl (Nat.le_of_ble_eq_true rfl) ?_
  rw [show yl 7 = 3 from rfl]
  refine G_w (pf0_ok X) LK_7 (fun i => i == 8) 20 _ _ _ _ ?_
  simp only [f_0, f_s, f_iconst, f_bipush, f_sipush, f_ldc, f_ldc_w, f_ldc2_w, f_ldI, f_ldL, f_ldA, f_iload, f_iload_n, f_lload, f_lload_n, f_aload, f_aload_n, f_istore, f_istore_n, f_lstore, f_lstore_n, f_astore, f_astore_n, f_iinc, f_icI, f_iadd, f_isub, f_imul, f_idiv, f_irem, f_iand, f_ior, f_ixor, f_ishl, f_ishr, f_iushr, f_i2l, f_i2b, f_i2s, f_ladd, f_lmul, f_lcmp, f_dupI, f_dupR, f_dup2, f_pop, f_goto, f_if, f_icmp, f_tab, f_ts0, f_ts1, f_getI, f_getZ, f_getR, f_putI, f_putR, f_gets, f_iald, f_bald, f_aald, f_iast, f_bast, f_aast, f_alen, f_new, f_newa, f_anew, f_virt, f_stat0, f_stat1, f_spec0, f_spec1, f_spec9, f_copy, f_max, f_min, f_cV1, f_cV0, f_cS1, f_cS0, f_iret, f_lret, f_vret, f_kG, pf0, cIg, inR, lget, lset, lset2, clr, entL, cnd, psh, catS, tsw, List.take_succ_cons, List.take_zero, List.drop_succ_cons, List.drop_zero, List.reverse_cons, List.reverse_nil, List.nil_append, List.cons_append, List.length_cons, List.length_nil, List.replicate_succ, List.replicate_zero, Nat.reduceAdd, Nat.reduceSub, Nat.reduceLeDiff, Nat.reduceLT, Nat.reduceEqDiff, Nat.reduceMul, Nat.zero_add, Nat.add_zero, Nat.le_refl, Nat.zero_le, Int.reduceEq, Int.reduceToNat, Int.toNat_natCast, Int.reduceNeg, Int.reduceAdd, Int.reduceSub, Int.reduceMul, Int.reduceLT, Int.reduceLE, Int.reduceDiv, Int.reduceMod, Bool.false_eq_true, ↓reduceIte, true_and, and_true, implies_true, forall_const, true_or, or_true, or_false, false_or, not_true_eq_false, not_false_eq_true, false_implies, Prod.mk.injEq, Fin.val_zero, Fin.val_one, Fin.isValue, Fin.reduceFinMk, Fin.val_two, mR_uI, mK_uI, mN_uI, mI_uR, mK_uR, mN_uR, mR_uC, mK_uC, mN_uC, Option.some.injEq, Sum.inl.injEq, Sum.inr.injEq, decide_true, decide_false, Bool.or_false, Bool.false_or, Bool.or_true, Bool.true_or, Nat.reduceBEq, beq_self_eq_true, show tb 7 = tb_7 from rfl, tb_7, tb_7_0, mZ_uN, mS_uN, mZ_uR, mS_uR, hz, k1]
  (repeat' (first | with_reducible apply And.intro | with_reducible intro _)) <;> (try omega)
  all_goals exact h9
/-! the completions, the class's object, the reference's -/
theorem cmp_f {c : Nat} (h : c = 361 ∨ c = 441) : SK c = 5 ∧ SN0 c = 8 ∧ okRw (c + 1) 24 ∧ SK (c + 75) = 2 ∧ SK (c + 78) = 20 ∧ SN0 (c + 78) = 60 ∧ SK (c + 79) = 20 ∧ SN0 (c + 79) = 60 := by
  rcases h with rfl | rfl
  · exact ⟨by decide, by decide, Or.inr ⟨Or.inl rfl, rfl⟩, by decide, by decide, by decide, by decide, by decide⟩
  · exact ⟨by decide, by decide, Or.inr ⟨Or.inr rfl, rfl⟩, by decide, by decide, by decide, by decide, by decide⟩
set_option maxRecDepth 100000 in
set_option maxHeartbeats 4000000 in
theorem e_newC (X : CX) (M : Mem) (c : Nat) (h : c = 361 ∨ c = 441) (hz : mZ M = c + 1) (hc : cl M c = arr 5 8) : Ev X y_Completion_init (79, 1771) [aR (some c), aR (some 59)] M (fun r M' => r = none ∧ Laid M M' c (c + 80)) := by
  have big : 900000 < BIG := Nat.le_of_ble_eq_true rfl
  obtain ⟨f1, f2, f3, f4, f5, f6, f7, f8⟩ := cmp_f h
  have c0 := Cn.st hz
  refine Ev_of mcd_8 mok_8 (by decide) rfl (Nat.le_of_ble_eq_true rfl) ?_
  rw [show yl 8 = 2 from rfl]
  refine G_w (pf0_ok X) LK_8 (fun i => false) 20 _ _ _ _ ?_
  simp only [f_0, f_s, f_iconst, f_bipush, f_sipush, f_ldc, f_ldc_w, f_ldc2_w, f_ldI, f_ldL, f_ldA, f_iload, f_iload_n, f_lload, f_lload_n, f_aload, f_aload_n, f_istore, f_istore_n, f_lstore, f_lstore_n, f_astore, f_astore_n, f_iinc, f_icI, f_iadd, f_isub, f_imul, f_idiv, f_irem, f_iand, f_ior, f_ixor, f_ishl, f_ishr, f_iushr, f_i2l, f_i2b, f_i2s, f_ladd, f_lmul, f_lcmp, f_dupI, f_dupR, f_dup2, f_pop, f_goto, f_if, f_icmp, f_tab, f_ts0, f_ts1, f_getI, f_getZ, f_getR, f_putI, f_putR, f_gets, f_iald, f_bald, f_aald, f_iast, f_bast, f_aast, f_alen, f_new, f_newa, f_anew, f_virt, f_stat0, f_stat1, f_spec0, f_spec1, f_spec9, f_copy, f_max, f_min, f_cV1, f_cV0, f_cS1, f_cS0, f_iret, f_lret, f_vret, f_kG, pf0, cIg, inR, lget, lset, lset2, clr, entL, cnd, psh, catS, tsw, List.take_succ_cons, List.take_zero, List.drop_succ_cons, List.drop_zero, List.reverse_cons, List.reverse_nil, List.nil_append, List.cons_append, List.length_cons, List.length_nil, List.replicate_succ, List.replicate_zero, Nat.reduceAdd, Nat.reduceSub, Nat.reduceLeDiff, Nat.reduceLT, Nat.reduceEqDiff, Nat.reduceMul, Nat.zero_add, Nat.add_zero, Nat.le_refl, Nat.zero_le, Int.reduceEq, Int.reduceToNat, Int.toNat_natCast, Int.reduceNeg, Int.reduceAdd, Int.reduceSub, Int.reduceMul, Int.reduceLT, Int.reduceLE, Int.reduceDiv, Int.reduceMod, Bool.false_eq_true, ↓reduceIte, true_and, and_true, implies_true, forall_const, true_or, or_true, or_false, false_or, not_true_eq_false, not_false_eq_true, false_implies, Prod.mk.injEq, Fin.val_zero, Fin.val_one, Fin.isValue, Fin.reduceFinMk, Fin.val_two, mR_uI, mK_uI, mN_uI, mI_uR, mK_uR, mN_uR, mR_uC, mK_uC, mN_uC, Option.some.injEq, Sum.inl.injEq, Sum.inr.injEq, decide_true, decide_false, Bool.or_false, Bool.false_or, Bool.or_true, Bool.true_or, Nat.reduceBEq, beq_self_eq_true, show tb 8 = tb_8 from rfl, tb_8, tb_8_0, mZ_uN, mS_uN, hz]
  (repeat' (first | with_reducible apply And.intro | with_reducible intro _)) <;> (try omega)
  refine ⟨(73, 1584), ⟨by simp only []; omega, by simp only []; omega⟩, Ev_mono (e_newR X (uN M 4 2) (c + 1) 24 f3 (by rw [mZ_uN, hz]) (by rw [cl_uN, if_pos hz.symm])) (fun q M1 hr z1 s1 => ?_)⟩
  obtain ⟨rfl, hL1⟩ := hr
  rw [mZ_uN, hz] at z1
  rw [mS_uN] at s1
  have z1 : mZ M1 = c + 75 := z1.trans (by show c + 1 + 1 + 73 = c + 75; omega)
  have c1 := c0.lay (show c + 1 < c + 75 by omega) hL1 z1
  have c2 := c1.nR c 0 (some (c + 1))
  have k1 : mK M1 c = 5 := by rw [c1.k, if_neg (by omega), hc]; rfl
  simp only [f_kG, psh, Nat.reduceAdd]
  refine G_w (pf0_ok X) LK_8 (fun i => false) 20 _ _ _ _ ?_
  simp only [f_0, f_s, f_iconst, f_bipush, f_sipush, f_ldc, f_ldc_w, f_ldc2_w, f_ldI, f_ldL, f_ldA, f_iload, f_iload_n, f_lload, f_lload_n, f_aload, f_aload_n, f_istore, f_istore_n, f_lstore, f_lstore_n, f_astore, f_astore_n, f_iinc, f_icI, f_iadd, f_isub, f_imul, f_idiv, f_irem, f_iand, f_ior, f_ixor, f_ishl, f_ishr, f_iushr, f_i2l, f_i2b, f_i2s, f_ladd, f_lmul, f_lcmp, f_dupI, f_dupR, f_dup2, f_pop, f_goto, f_if, f_icmp, f_tab, f_ts0, f_ts1, f_getI, f_getZ, f_getR, f_putI, f_putR, f_gets, f_iald, f_bald, f_aald, f_iast, f_bast, f_aast, f_alen, f_new, f_newa, f_anew, f_virt, f_stat0, f_stat1, f_spec0, f_spec1, f_spec9, f_copy, f_max, f_min, f_cV1, f_cV0, f_cS1, f_cS0, f_iret, f_lret, f_vret, f_kG, pf0, cIg, inR, lget, lset, lset2, clr, entL, cnd, psh, catS, tsw, List.take_succ_cons, List.take_zero, List.drop_succ_cons, List.drop_zero, List.reverse_cons, List.reverse_nil, List.nil_append, List.cons_append, List.length_cons, List.length_nil, List.replicate_succ, List.replicate_zero, Nat.reduceAdd, Nat.reduceSub, Nat.reduceLeDiff, Nat.reduceLT, Nat.reduceEqDiff, Nat.reduceMul, Nat.zero_add, Nat.add_zero, Nat.le_refl, Nat.zero_le, Int.reduceEq, Int.reduceToNat, Int.toNat_natCast, Int.reduceNeg, Int.reduceAdd, Int.reduceSub, Int.reduceMul, Int.reduceLT, Int.reduceLE, Int.reduceDiv, Int.reduceMod, Bool.false_eq_true, ↓reduceIte, true_and, and_true, implies_true, forall_const, true_or, or_true, or_false, false_or, not_true_eq_false, not_false_eq_true, false_implies, Prod.mk.injEq, Fin.val_zero, Fin.val_one, Fin.isValue, Fin.reduceFinMk, Fin.val_two, mR_uI, mK_uI, mN_uI, mI_uR, mK_uR, mN_uR, mR_uC, mK_uC, mN_uC, Option.some.injEq, Sum.inl.injEq, Sum.inr.injEq, decide_true, decide_false, Bool.or_false, Bool.false_or, Bool.or_true, Bool.true_or, Nat.reduceBEq, beq_self_eq_true, show tb 8 = tb_8 from rfl, tb_8, tb_8_0, mZ_uN, mS_uN, mZ_uR, mS_uR, hz, z1, k1]
  (repeat' (first | with_reducible apply And.intro | with_reducible intro _)) <;> (try omega)
  refine ⟨(2, 60), ⟨by simp only []; omega, by simp only []; omega⟩, Ev_mono (e_newP X (uN (uR M1 c 0 (some (c + 1))) 2 5) (c + 75) (by omega) (by rw [mZ_uN, mZ_uR, z1]) f4 (by rw [cl_uN, if_pos (by rw [mZ_uR, z1])])) (fun q M2 hr z2 s2 => ?_)⟩
  obtain ⟨rfl, hL2⟩ := hr
  rw [mZ_uN, mZ_uR, z1] at z2
  rw [mS_uN, mS_uR] at s2
  have z2 : mZ M2 = c + 78 := z2.trans (by show c + 75 + 1 + 2 = c + 78; omega)
  have c3 := c2.lay (show c + 75 < c + 78 by omega) hL2 z2
  have c4 := c3.nR c 5 (some (c + 75))
  have c5 := c4.nN 20 60
  have c6 := c5.nR c 6 (some (c + 78))
  have c7 := c6.nN 20 60
  have c8 := c7.nR c 7 (some (c + 78 + 1))
  have c9 := (c8.nR c 3 (some 59)).nS (mS M + 1771)
  have k2 : mK M2 c = 5 := by rw [c3.k, if_neg (by omega), if_pos rfl, if_neg (by omega), hc]; rfl
  have k3 : mK (uN (uR M2 c 5 (some (c + 75))) 20 60) c = 5 := by rw [mK_uN, if_neg (by rw [mZ_uR, z2]; omega), mK_uR]; exact k2
  have k4 : mK (uN (uR (uN (uR M2 c 5 (some (c + 75))) 20 60) c 6 (some (c + 78))) 20 60) c = 5 := by rw [mK_uN, if_neg (by rw [mZ_uR, mZ_uN, mZ_uR, z2]; omega), mK_uR]; exact k3
  have hL : Laid M (uS (uR (uR (uN (uR (uN (uR M2 c 5 (some (c + 75))) 20 60) c 6 (some (c + 78))) 20 60) c 7 (some (c + 78 + 1))) c 3 (some 59)) (mS M + 1771)) c (c + 80) := by
    refine ⟨fun a h1 h2 => ?_, fun a h => ?_⟩
    · rw [c9.e a]
      by_cases a0 : a = c
      · subst a0
        rw [if_pos rfl, if_pos rfl, if_neg (by omega), if_pos rfl, if_neg (by omega), if_pos rfl, if_neg (by omega), if_pos rfl, if_neg (by omega), hc]
        refine cel_ext f1.symm f2.symm (fun j => ?_) (fun j => (SI_0 (by omega) (by omega) j).symm)
        rw [show (LC a).2.2.1 j = SRR a j from rfl, SRR_c f1]
        show (if j = 3 then some 59 else if j = 7 then some (a + 78 + 1) else if j = 6 then some (a + 78) else if j = 5 then some (a + 75) else if j = 0 then some (a + 1) else none) = _
        by_cases j0 : j = 0
        · rw [if_neg (by omega), if_neg (by omega), if_neg (by omega), if_neg (by omega), if_pos j0, if_pos j0]
        · by_cases j3 : j = 3
          · rw [if_pos j3, if_neg j0, if_pos j3]
          · by_cases j5 : j = 5
            · rw [if_neg (by omega), if_neg (by omega), if_neg (by omega), if_pos j5, if_neg j0, if_neg j3, if_pos j5]
            · by_cases j6 : j = 6
              · rw [if_neg (by omega), if_neg (by omega), if_pos j6, if_neg j0, if_neg j3, if_neg j5, if_pos j6]
              · by_cases j7 : j = 7
                · rw [if_neg (by omega), if_pos j7, if_neg j0, if_neg j3, if_neg j5, if_neg j6, if_pos j7]
                · rw [if_neg j3, if_neg j7, if_neg j6, if_neg j5, if_neg j0, if_neg j0, if_neg j3, if_neg j5, if_neg j6, if_neg j7]
      · rw [if_neg a0, if_neg a0]
        by_cases a1 : a = c + 78 + 1
        · rw [if_pos a1, a1]; exact (LC_a f7 f8).symm
        · rw [if_neg a1, if_neg a0]
          by_cases a2 : a = c + 78
          · rw [if_pos a2, a2]; exact (LC_a f5 f6).symm
          · rw [if_neg a2, if_neg a0]
            by_cases a3 : c + 75 ≤ a ∧ a < c + 78
            · rw [if_pos a3]
            · rw [if_neg a3, if_neg a0, if_pos (by omega)]
    · rw [c9.e a, if_neg (by omega), if_neg (by omega), if_neg (by omega), if_neg (by omega), if_neg (by omega), if_neg (by omega), if_neg (by omega), if_neg (by omega), if_neg (by omega)]
  simp only [f_kG, psh, Nat.reduceAdd]
  refine G_w (pf0_ok X) LK_8 (fun i => false) 30 _ _ _ _ ?_
  simp only [f_0, f_s, f_iconst, f_bipush, f_sipush, f_ldc, f_ldc_w, f_ldc2_w, f_ldI, f_ldL, f_ldA, f_iload, f_iload_n, f_lload, f_lload_n, f_aload, f_aload_n, f_istore, f_istore_n, f_lstore, f_lstore_n, f_astore, f_astore_n, f_iinc, f_icI, f_iadd, f_isub, f_imul, f_idiv, f_irem, f_iand, f_ior, f_ixor, f_ishl, f_ishr, f_iushr, f_i2l, f_i2b, f_i2s, f_ladd, f_lmul, f_lcmp, f_dupI, f_dupR, f_dup2, f_pop, f_goto, f_if, f_icmp, f_tab, f_ts0, f_ts1, f_getI, f_getZ, f_getR, f_putI, f_putR, f_gets, f_iald, f_bald, f_aald, f_iast, f_bast, f_aast, f_alen, f_new, f_newa, f_anew, f_virt, f_stat0, f_stat1, f_spec0, f_spec1, f_spec9, f_copy, f_max, f_min, f_cV1, f_cV0, f_cS1, f_cS0, f_iret, f_lret, f_vret, f_kG, pf0, cIg, inR, lget, lset, lset2, clr, entL, cnd, psh, catS, tsw, List.take_succ_cons, List.take_zero, List.drop_succ_cons, List.drop_zero, List.reverse_cons, List.reverse_nil, List.nil_append, List.cons_append, List.length_cons, List.length_nil, List.replicate_succ, List.replicate_zero, Nat.reduceAdd, Nat.reduceSub, Nat.reduceLeDiff, Nat.reduceLT, Nat.reduceEqDiff, Nat.reduceMul, Nat.zero_add, Nat.add_zero, Nat.le_refl, Nat.zero_le, Int.reduceEq, Int.reduceToNat, Int.toNat_natCast, Int.reduceNeg, Int.reduceAdd, Int.reduceSub, Int.reduceMul, Int.reduceLT, Int.reduceLE, Int.reduceDiv, Int.reduceMod, Bool.false_eq_true, ↓reduceIte, true_and, and_true, implies_true, forall_const, true_or, or_true, or_false, false_or, not_true_eq_false, not_false_eq_true, false_implies, Prod.mk.injEq, Fin.val_zero, Fin.val_one, Fin.isValue, Fin.reduceFinMk, Fin.val_two, mR_uI, mK_uI, mN_uI, mI_uR, mK_uR, mN_uR, mR_uC, mK_uC, mN_uC, Option.some.injEq, Sum.inl.injEq, Sum.inr.injEq, decide_true, decide_false, Bool.or_false, Bool.false_or, Bool.or_true, Bool.true_or, Nat.reduceBEq, beq_self_eq_true, show tb 8 = tb_8 from rfl, tb_8, tb_8_0, mZ_uN, mS_uN, mZ_uR, mS_uR, hz, z2, k2, k3, k4]
  (repeat' (first | with_reducible apply And.intro | with_reducible intro _)) <;> (try omega)
  all_goals first | exact hL | rfl
/-! the class's object -/
def Gx (Mb : Mem) (n : Nat) (c0 c1 c2 c3 : Cel) (a : Nat) : Cel := if a = 0 then c0 else if a = 1 then c1 else if a = 2 then c2 else if a = 13 then c3 else if a < n then LC a else cl Mb a
theorem Gx.r0 {Mb M : Mem} {n : Nat} {c0 c1 c2 c3 : Cel} (h : Cn M n (Gx Mb n c0 c1 c2 c3)) (k : Nat) (v : Option Nat) : Cn (uR M 0 k v) n (Gx Mb n (upC c0 k v) c1 c2 c3) := (h.nR 0 k v).cv (fun a => by
  by_cases a0 : a = 0
  · rw [if_pos a0, Gx, Gx, if_pos rfl, if_pos a0]
  · rw [if_neg a0, Gx, Gx, if_neg a0, if_neg a0])
theorem Gx.r1 {Mb M : Mem} {n : Nat} {c0 c1 c2 c3 : Cel} (h : Cn M n (Gx Mb n c0 c1 c2 c3)) (k : Nat) (v : Option Nat) : Cn (uR M 1 k v) n (Gx Mb n c0 (upC c1 k v) c2 c3) := (h.nR 1 k v).cv (fun a => by
  by_cases a0 : a = 1
  · rw [if_pos a0, Gx, Gx, if_neg (by omega), if_pos rfl, if_neg (by omega), if_pos a0]
  · rw [if_neg a0, Gx, Gx, if_neg a0, if_neg a0])
theorem Gx.r2 {Mb M : Mem} {n : Nat} {c0 c1 c2 c3 : Cel} (h : Cn M n (Gx Mb n c0 c1 c2 c3)) (k : Nat) (v : Option Nat) : Cn (uR M 2 k v) n (Gx Mb n c0 c1 (upC c2 k v) c3) := (h.nR 2 k v).cv (fun a => by
  by_cases a0 : a = 2
  · rw [if_pos a0, Gx, Gx, if_neg (by omega), if_neg (by omega), if_pos rfl, if_neg (by omega), if_neg (by omega), if_pos a0]
  · rw [if_neg a0, Gx, Gx, if_neg a0, if_neg a0])
theorem Gx.r3 {Mb M : Mem} {n : Nat} {c0 c1 c2 c3 : Cel} (h : Cn M n (Gx Mb n c0 c1 c2 c3)) (k : Nat) (v : Option Nat) : Cn (uR M 13 k v) n (Gx Mb n c0 c1 c2 (upC c3 k v)) := (h.nR 13 k v).cv (fun a => by
  by_cases a0 : a = 13
  · rw [if_pos a0, Gx, Gx, if_neg (by omega), if_neg (by omega), if_neg (by omega), if_pos rfl, if_neg (by omega), if_neg (by omega), if_neg (by omega), if_pos a0]
  · rw [if_neg a0, Gx, Gx, if_neg a0, if_neg a0])
theorem Gx.nw {Mb M : Mem} {n k m : Nat} {c0 c1 c2 c3 : Cel} (h : Cn M n (Gx Mb n c0 c1 c2 c3)) (hn : 2 < n ∧ n ≠ 13) (hl : LC n = arr k m) : Cn (uN M k m) (n + 1) (Gx Mb (n + 1) c0 c1 c2 c3) := (h.nN k m).cv (fun a => by
  by_cases a0 : a = n
  · rw [if_pos a0, Gx, if_neg (by omega), if_neg (by omega), if_neg (by omega), if_neg (by omega), if_pos (by omega), a0, hl]
  · rw [if_neg a0, Gx, Gx]
    by_cases a1 : a < n
    · rw [if_pos a1, if_pos (show a < n + 1 by omega)]
    · rw [if_neg a1, if_neg (show ¬ a < n + 1 by omega)])
theorem Gx.bl {Mb M M' : Mem} {n n' k m : Nat} {c0 c1 c2 c3 : Cel} (h : Cn M n (Gx Mb n c0 c1 c2 c3)) (hn : n < n') (hs : 13 < n ∨ (2 < n ∧ n' ≤ 13)) (hL : Laid (uN M k m) M' n n') (hz : mZ M' = n') : Cn M' n' (Gx Mb n' c0 c1 c2 c3) := (h.lay hn hL hz).cv (fun a => by
  by_cases a0 : n ≤ a ∧ a < n'
  · rw [if_pos a0, Gx, if_neg (by omega), if_neg (by omega), if_neg (by omega), if_neg (by omega), if_pos (by omega)]
  · rw [if_neg a0, Gx, Gx]
    by_cases a1 : a < n
    · rw [if_pos a1, if_pos (show a < n' by omega)]
    · rw [if_neg a1, if_neg (show ¬ a < n' by omega)])
/-- the object's references when its fields are made, ahead of the loops -/
def R0 : Cel := (0, 15, fun k => ([some 1, some 2, some 3, none, none, none, none, some 4, none, some 7, none, some 10, some 11, some 13, none] : List (Option Nat)).getD k none, fun _ => 0)
def V1 (t : Nat) : Cel := (31, 8, fun k => if k < t then some (14 + 2 * k) else none, fun _ => 0)
def V2 (t : Nat) : Cel := (32, 7, fun k => if k < t then some (30 + 3 * k) else none, fun _ => 0)
def V3 (t : Nat) : Cel := (37, 4, fun k => if k < t then some (51 + 2 * k) else none, fun _ => 0)
theorem upT {k0 n b s t : Nat} : upC (k0, n, fun k => if k < t then some (b + s * k) else none, fun _ => 0) t (some (b + s * t)) = (k0, n, fun k => if k < t + 1 then some (b + s * k) else none, fun _ => 0) := cel_ext rfl rfl (fun k => by
  show (if k = t then some (b + s * t) else if k < t then some (b + s * k) else none) = if k < t + 1 then some (b + s * k) else none
  by_cases ki : k = t
  · rw [if_pos ki, if_pos (by omega), ki]
  · rw [if_neg ki]
    by_cases k2 : k < t
    · rw [if_pos k2, if_pos (by omega)]
    · rw [if_neg k2, if_neg (by omega)]) (fun j => rfl)
theorem V0 {k0 n b s : Nat} : arr k0 n = (k0, n, fun k => if k < 0 then some (b + s * k) else none, fun _ => 0) := cel_ext rfl rfl (fun k => (if_neg (show ¬ k < 0 by omega)).symm) (fun j => rfl)
theorem txt_f : ∀ t : Nat, t < 8 → SK (14 + 2 * t) = 1 ∧ SN0 (14 + 2 * t) = 3 ∧ SK (14 + 2 * t + 1) = 20 ∧ SN0 (14 + 2 * t + 1) = if t = 7 then 3 else 30 := by decide
theorem val_f : ∀ t : Nat, t < 7 → SK (30 + 3 * t) = 2 := by decide
theorem sht_f : ∀ t : Nat, t < 4 → SK (51 + 2 * t) = 7 ∧ SN0 (51 + 2 * t) = 3 ∧ SK (51 + 2 * t + 1) = 20 ∧ SN0 (51 + 2 * t + 1) = 60 := by decide
theorem LC_1 : LC 1 = V1 8 := cel_ext rfl rfl (fun k => rfl) (fun j => SI_0 (a := 1) (by decide) (by decide) j)
theorem LC_2 : LC 2 = V2 7 := cel_ext rfl rfl (fun k => rfl) (fun j => SI_0 (a := 2) (by decide) (by decide) j)
theorem LC_13 : LC 13 = V3 4 := cel_ext rfl rfl (fun k => rfl) (fun j => SI_0 (a := 13) (by decide) (by decide) j)
theorem LC_0 : LC 0 = upC (upC R0 5 (some 361)) 6 (some 441) := cel_ext rfl rfl (fun k => by
  match k with
  | 0 => rfl
  | 1 => rfl
  | 2 => rfl
  | 3 => rfl
  | 4 => rfl
  | 5 => rfl
  | 6 => rfl
  | 7 => rfl
  | 8 => rfl
  | 9 => rfl
  | 10 => rfl
  | 11 => rfl
  | 12 => rfl
  | 13 => rfl
  | 14 => rfl
  | n + 15 => rfl) (fun j => SI_0 (a := 0) (by decide) (by decide) j)
theorem R0_eq : upC (upC (upC (upC (upC (upC (upC (upC (arr 0 15) 0 (some 1)) 1 (some 2)) 2 (some 3)) 7 (some 4)) 9 (some 7)) 11 (some 10)) 12 (some 11)) 13 (some 13) = R0 := cel_ext rfl rfl (fun k => by
  match k with
  | 0 => rfl
  | 1 => rfl
  | 2 => rfl
  | 3 => rfl
  | 4 => rfl
  | 5 => rfl
  | 6 => rfl
  | 7 => rfl
  | 8 => rfl
  | 9 => rfl
  | 10 => rfl
  | 11 => rfl
  | 12 => rfl
  | 13 => rfl
  | 14 => rfl
  | n + 15 => rfl) (fun j => rfl)
/-! the class's object is made -/
abbrev KX (M : Mem) : Option AV → Mem → Prop := fun r M' => r = none ∧ Laid M M' 0 521
set_option maxRecDepth 100000 in
set_option maxHeartbeats 4000000 in
theorem nx_tail (X : CX) (M M1 : Mem) (hz : mZ M = 1) (v1 : Option AV) (hC : Cn M1 59 (Gx M 59 R0 (V1 8) (V2 7) (V3 4))) (hS : mS M1 = mS M + 1499) : G X y_x_init (mZ M, mS M, 520, 12000) 88 [some (aR (some 0)), v1] [] M1 (KX M) := by
  have big : 900000 < BIG := Nat.le_of_ble_eq_true rfl
  have hz1 := hC.1
  refine G_w (pf0_ok X) LK_1 (fun i => false) 20 _ _ _ _ ?_
  simp only [f_0, f_s, f_iconst, f_bipush, f_sipush, f_ldc, f_ldc_w, f_ldc2_w, f_ldI, f_ldL, f_ldA, f_iload, f_iload_n, f_lload, f_lload_n, f_aload, f_aload_n, f_istore, f_istore_n, f_lstore, f_lstore_n, f_astore, f_astore_n, f_iinc, f_icI, f_iadd, f_isub, f_imul, f_idiv, f_irem, f_iand, f_ior, f_ixor, f_ishl, f_ishr, f_iushr, f_i2l, f_i2b, f_i2s, f_ladd, f_lmul, f_lcmp, f_dupI, f_dupR, f_dup2, f_pop, f_goto, f_if, f_icmp, f_tab, f_ts0, f_ts1, f_getI, f_getZ, f_getR, f_putI, f_putR, f_gets, f_iald, f_bald, f_aald, f_iast, f_bast, f_aast, f_alen, f_new, f_newa, f_anew, f_virt, f_stat0, f_stat1, f_spec0, f_spec1, f_spec9, f_copy, f_max, f_min, f_cV1, f_cV0, f_cS1, f_cS0, f_iret, f_lret, f_vret, f_kG, pf0, cIg, inR, lget, lset, lset2, clr, entL, cnd, psh, catS, tsw, List.take_succ_cons, List.take_zero, List.drop_succ_cons, List.drop_zero, List.reverse_cons, List.reverse_nil, List.nil_append, List.cons_append, List.length_cons, List.length_nil, List.replicate_succ, List.replicate_zero, Nat.reduceAdd, Nat.reduceSub, Nat.reduceLeDiff, Nat.reduceLT, Nat.reduceEqDiff, Nat.reduceMul, Nat.zero_add, Nat.add_zero, Nat.le_refl, Nat.zero_le, Int.reduceEq, Int.reduceToNat, Int.toNat_natCast, Int.reduceNeg, Int.reduceAdd, Int.reduceSub, Int.reduceMul, Int.reduceLT, Int.reduceLE, Int.reduceDiv, Int.reduceMod, Bool.false_eq_true, ↓reduceIte, true_and, and_true, implies_true, forall_const, true_or, or_true, or_false, false_or, not_true_eq_false, not_false_eq_true, false_implies, Prod.mk.injEq, Fin.val_zero, Fin.val_one, Fin.isValue, Fin.reduceFinMk, Fin.val_two, mR_uI, mK_uI, mN_uI, mI_uR, mK_uR, mN_uR, mR_uC, mK_uC, mN_uC, Option.some.injEq, Sum.inl.injEq, Sum.inr.injEq, decide_true, decide_false, Bool.or_false, Bool.false_or, Bool.or_true, Bool.true_or, Nat.reduceBEq, beq_self_eq_true, show tb 1 = tb_1 from rfl, tb_1, tb_1_0, tb_1_1, tb_1_2, tb_1_3, mZ_uN, mS_uN, hz1]
  (repeat' (first | with_reducible apply And.intro | with_reducible intro _)) <;> (try omega)
  refine ⟨(301, 6600), ⟨by simp only []; omega, by simp only []; omega⟩, Ev_mono (e_newR X (uN M1 4 2) 59 100 (Or.inl ⟨rfl, rfl⟩) (by rw [mZ_uN, hz1]) (by rw [cl_uN, if_pos hz1.symm])) (fun q M2 hr z2 s2 => ?_)⟩
  obtain ⟨rfl, hL2⟩ := hr
  simp only [mZ_uN, mS_uN, hz1, Nat.reduceAdd] at z2 s2
  have c2 := Gx.bl hC (by omega) (by omega) hL2 z2
  simp only [f_kG, psh, Nat.reduceAdd]
  refine G_w (pf0_ok X) LK_1 (fun i => false) 20 _ _ _ _ ?_
  simp only [f_0, f_s, f_iconst, f_bipush, f_sipush, f_ldc, f_ldc_w, f_ldc2_w, f_ldI, f_ldL, f_ldA, f_iload, f_iload_n, f_lload, f_lload_n, f_aload, f_aload_n, f_istore, f_istore_n, f_lstore, f_lstore_n, f_astore, f_astore_n, f_iinc, f_icI, f_iadd, f_isub, f_imul, f_idiv, f_irem, f_iand, f_ior, f_ixor, f_ishl, f_ishr, f_iushr, f_i2l, f_i2b, f_i2s, f_ladd, f_lmul, f_lcmp, f_dupI, f_dupR, f_dup2, f_pop, f_goto, f_if, f_icmp, f_tab, f_ts0, f_ts1, f_getI, f_getZ, f_getR, f_putI, f_putR, f_gets, f_iald, f_bald, f_aald, f_iast, f_bast, f_aast, f_alen, f_new, f_newa, f_anew, f_virt, f_stat0, f_stat1, f_spec0, f_spec1, f_spec9, f_copy, f_max, f_min, f_cV1, f_cV0, f_cS1, f_cS0, f_iret, f_lret, f_vret, f_kG, pf0, cIg, inR, lget, lset, lset2, clr, entL, cnd, psh, catS, tsw, List.take_succ_cons, List.take_zero, List.drop_succ_cons, List.drop_zero, List.reverse_cons, List.reverse_nil, List.nil_append, List.cons_append, List.length_cons, List.length_nil, List.replicate_succ, List.replicate_zero, Nat.reduceAdd, Nat.reduceSub, Nat.reduceLeDiff, Nat.reduceLT, Nat.reduceEqDiff, Nat.reduceMul, Nat.zero_add, Nat.add_zero, Nat.le_refl, Nat.zero_le, Int.reduceEq, Int.reduceToNat, Int.toNat_natCast, Int.reduceNeg, Int.reduceAdd, Int.reduceSub, Int.reduceMul, Int.reduceLT, Int.reduceLE, Int.reduceDiv, Int.reduceMod, Bool.false_eq_true, ↓reduceIte, true_and, and_true, implies_true, forall_const, true_or, or_true, or_false, false_or, not_true_eq_false, not_false_eq_true, false_implies, Prod.mk.injEq, Fin.val_zero, Fin.val_one, Fin.isValue, Fin.reduceFinMk, Fin.val_two, mR_uI, mK_uI, mN_uI, mI_uR, mK_uR, mN_uR, mR_uC, mK_uC, mN_uC, Option.some.injEq, Sum.inl.injEq, Sum.inr.injEq, decide_true, decide_false, Bool.or_false, Bool.false_or, Bool.or_true, Bool.true_or, Nat.reduceBEq, beq_self_eq_true, show tb 1 = tb_1 from rfl, tb_1, tb_1_0, tb_1_1, tb_1_2, tb_1_3, mZ_uN, mS_uN, z2]
  (repeat' (first | with_reducible apply And.intro | with_reducible intro _)) <;> (try omega)
  refine ⟨(79, 1771), ⟨by simp only []; omega, by simp only []; omega⟩, Ev_mono (e_newC X (uN M2 5 8) 361 (Or.inl rfl) (by rw [mZ_uN, z2]) (by rw [cl_uN, if_pos z2.symm])) (fun q M3 hr z3 s3 => ?_)⟩
  obtain ⟨rfl, hL3⟩ := hr
  simp only [mZ_uN, mS_uN, z2, Nat.reduceAdd] at z3 s3
  have c3 := Gx.bl c2 (by omega) (by omega) hL3 z3
  have k3 : mK M3 0 = 0 := by rw [c3.k]; rfl
  have c4 := Gx.r0 c3 5 (some 361)
  simp only [f_kG, psh, Nat.reduceAdd]
  refine G_w (pf0_ok X) LK_1 (fun i => false) 20 _ _ _ _ ?_
  simp only [f_0, f_s, f_iconst, f_bipush, f_sipush, f_ldc, f_ldc_w, f_ldc2_w, f_ldI, f_ldL, f_ldA, f_iload, f_iload_n, f_lload, f_lload_n, f_aload, f_aload_n, f_istore, f_istore_n, f_lstore, f_lstore_n, f_astore, f_astore_n, f_iinc, f_icI, f_iadd, f_isub, f_imul, f_idiv, f_irem, f_iand, f_ior, f_ixor, f_ishl, f_ishr, f_iushr, f_i2l, f_i2b, f_i2s, f_ladd, f_lmul, f_lcmp, f_dupI, f_dupR, f_dup2, f_pop, f_goto, f_if, f_icmp, f_tab, f_ts0, f_ts1, f_getI, f_getZ, f_getR, f_putI, f_putR, f_gets, f_iald, f_bald, f_aald, f_iast, f_bast, f_aast, f_alen, f_new, f_newa, f_anew, f_virt, f_stat0, f_stat1, f_spec0, f_spec1, f_spec9, f_copy, f_max, f_min, f_cV1, f_cV0, f_cS1, f_cS0, f_iret, f_lret, f_vret, f_kG, pf0, cIg, inR, lget, lset, lset2, clr, entL, cnd, psh, catS, tsw, List.take_succ_cons, List.take_zero, List.drop_succ_cons, List.drop_zero, List.reverse_cons, List.reverse_nil, List.nil_append, List.cons_append, List.length_cons, List.length_nil, List.replicate_succ, List.replicate_zero, Nat.reduceAdd, Nat.reduceSub, Nat.reduceLeDiff, Nat.reduceLT, Nat.reduceEqDiff, Nat.reduceMul, Nat.zero_add, Nat.add_zero, Nat.le_refl, Nat.zero_le, Int.reduceEq, Int.reduceToNat, Int.toNat_natCast, Int.reduceNeg, Int.reduceAdd, Int.reduceSub, Int.reduceMul, Int.reduceLT, Int.reduceLE, Int.reduceDiv, Int.reduceMod, Bool.false_eq_true, ↓reduceIte, true_and, and_true, implies_true, forall_const, true_or, or_true, or_false, false_or, not_true_eq_false, not_false_eq_true, false_implies, Prod.mk.injEq, Fin.val_zero, Fin.val_one, Fin.isValue, Fin.reduceFinMk, Fin.val_two, mR_uI, mK_uI, mN_uI, mI_uR, mK_uR, mN_uR, mR_uC, mK_uC, mN_uC, Option.some.injEq, Sum.inl.injEq, Sum.inr.injEq, decide_true, decide_false, Bool.or_false, Bool.false_or, Bool.or_true, Bool.true_or, Nat.reduceBEq, beq_self_eq_true, show tb 1 = tb_1 from rfl, tb_1, tb_1_0, tb_1_1, tb_1_2, tb_1_3, mZ_uN, mS_uN, mZ_uR, mS_uR, z3, k3]
  (repeat' (first | with_reducible apply And.intro | with_reducible intro _)) <;> (try omega)
  refine ⟨(79, 1771), ⟨by simp only []; omega, by simp only []; omega⟩, Ev_mono (e_newC X (uN (uR M3 0 5 (some 361)) 5 8) 441 (Or.inr rfl) (by rw [mZ_uN, mZ_uR, z3]) (by rw [cl_uN, if_pos (by rw [mZ_uR, z3])])) (fun q M5 hr z5 s5 => ?_)⟩
  obtain ⟨rfl, hL5⟩ := hr
  simp only [mZ_uN, mS_uN, mZ_uR, mS_uR, z3, Nat.reduceAdd] at z5 s5
  have c5 := Gx.bl c4 (by omega) (by omega) hL5 z5
  have k5 : mK M5 0 = 0 := by rw [c5.k]; rfl
  have c6 := (Gx.r0 c5 6 (some 441)).nS (mS M + 12000)
  have hL : Laid M (uS (uR M5 0 6 (some 441)) (mS M + 12000)) 0 521 := by
    refine ⟨fun a h1 h2 => ?_, fun a h => ?_⟩
    · rw [c6.e a, Gx]
      by_cases a0 : a = 0
      · rw [if_pos a0, a0, LC_0]
      · by_cases a1 : a = 1
        · rw [if_neg a0, if_pos a1, a1, LC_1]
        · by_cases a2 : a = 2
          · rw [if_neg a0, if_neg a1, if_pos a2, a2, LC_2]
          · by_cases a3 : a = 13
            · rw [if_neg a0, if_neg a1, if_neg a2, if_pos a3, a3, LC_13]
            · rw [if_neg a0, if_neg a1, if_neg a2, if_neg a3, if_pos h2]
    · rw [c6.e a, Gx, if_neg (by omega), if_neg (by omega), if_neg (by omega), if_neg (by omega), if_neg (by omega)]
  simp only [f_kG, psh, Nat.reduceAdd]
  refine G_w (pf0_ok X) LK_1 (fun i => false) 20 _ _ _ _ ?_
  simp only [f_0, f_s, f_iconst, f_bipush, f_sipush, f_ldc, f_ldc_w, f_ldc2_w, f_ldI, f_ldL, f_ldA, f_iload, f_iload_n, f_lload, f_lload_n, f_aload, f_aload_n, f_istore, f_istore_n, f_lstore, f_lstore_n, f_astore, f_astore_n, f_iinc, f_icI, f_iadd, f_isub, f_imul, f_idiv, f_irem, f_iand, f_ior, f_ixor, f_ishl, f_ishr, f_iushr, f_i2l, f_i2b, f_i2s, f_ladd, f_lmul, f_lcmp, f_dupI, f_dupR, f_dup2, f_pop, f_goto, f_if, f_icmp, f_tab, f_ts0, f_ts1, f_getI, f_getZ, f_getR, f_putI, f_putR, f_gets, f_iald, f_bald, f_aald, f_iast, f_bast, f_aast, f_alen, f_new, f_newa, f_anew, f_virt, f_stat0, f_stat1, f_spec0, f_spec1, f_spec9, f_copy, f_max, f_min, f_cV1, f_cV0, f_cS1, f_cS0, f_iret, f_lret, f_vret, f_kG, pf0, cIg, inR, lget, lset, lset2, clr, entL, cnd, psh, catS, tsw, List.take_succ_cons, List.take_zero, List.drop_succ_cons, List.drop_zero, List.reverse_cons, List.reverse_nil, List.nil_append, List.cons_append, List.length_cons, List.length_nil, List.replicate_succ, List.replicate_zero, Nat.reduceAdd, Nat.reduceSub, Nat.reduceLeDiff, Nat.reduceLT, Nat.reduceEqDiff, Nat.reduceMul, Nat.zero_add, Nat.add_zero, Nat.le_refl, Nat.zero_le, Int.reduceEq, Int.reduceToNat, Int.toNat_natCast, Int.reduceNeg, Int.reduceAdd, Int.reduceSub, Int.reduceMul, Int.reduceLT, Int.reduceLE, Int.reduceDiv, Int.reduceMod, Bool.false_eq_true, ↓reduceIte, true_and, and_true, implies_true, forall_const, true_or, or_true, or_false, false_or, not_true_eq_false, not_false_eq_true, false_implies, Prod.mk.injEq, Fin.val_zero, Fin.val_one, Fin.isValue, Fin.reduceFinMk, Fin.val_two, mR_uI, mK_uI, mN_uI, mI_uR, mK_uR, mN_uR, mR_uC, mK_uC, mN_uC, Option.some.injEq, Sum.inl.injEq, Sum.inr.injEq, decide_true, decide_false, Bool.or_false, Bool.false_or, Bool.or_true, Bool.true_or, Nat.reduceBEq, beq_self_eq_true, show tb 1 = tb_1 from rfl, tb_1, tb_1_0, tb_1_1, tb_1_2, tb_1_3, mZ_uN, mS_uN, mZ_uR, mS_uR, z5, k5]
  (repeat' (first | with_reducible apply And.intro | with_reducible intro _)) <;> (try omega)
  all_goals first | exact hL | rfl
set_option maxRecDepth 100000 in
set_option maxHeartbeats 4000000 in
theorem nx_sheets (X : CX) (M : Mem) (hz : mZ M = 1) : ∀ (d t : Nat) (M1 : Mem), t + d = 4 → Cn M1 (51 + 2 * t) (Gx M (51 + 2 * t) R0 (V1 8) (V2 7) (V3 t)) → mS M1 = mS M + 1247 + 63 * t → G X y_x_init (mZ M, mS M, 520, 12000) 76 [some (aR (some 0)), some (aI t)] [] M1 (KX M) := by
  have big : 900000 < BIG := Nat.le_of_ble_eq_true rfl
  intro d
  induction d with
  | zero =>
    intro t M1 ht hC hS
    have ht4 : t = 4 := by omega
    subst ht4
    have hge : (4 : Int) ≤ ((4 : Nat) : Int) := by omega
    have h9 := nx_tail X M M1 hz (some (aI ((4 : Nat) : Int))) hC (by omega)
    refine G_w (pf0_ok X) LK_1 (fun i => i == 88) 20 _ _ _ _ ?_
    simp only [f_0, f_s, f_iconst, f_bipush, f_sipush, f_ldc, f_ldc_w, f_ldc2_w, f_ldI, f_ldL, f_ldA, f_iload, f_iload_n, f_lload, f_lload_n, f_aload, f_aload_n, f_istore, f_istore_n, f_lstore, f_lstore_n, f_astore, f_astore_n, f_iinc, f_icI, f_iadd, f_isub, f_imul, f_idiv, f_irem, f_iand, f_ior, f_ixor, f_ishl, f_ishr, f_iushr, f_i2l, f_i2b, f_i2s, f_ladd, f_lmul, f_lcmp, f_dupI, f_dupR, f_dup2, f_pop, f_goto, f_if, f_icmp, f_tab, f_ts0, f_ts1, f_getI, f_getZ, f_getR, f_putI, f_putR, f_gets, f_iald, f_bald, f_aald, f_iast, f_bast, f_aast, f_alen, f_new, f_newa, f_anew, f_virt, f_stat0, f_stat1, f_spec0, f_spec1, f_spec9, f_copy, f_max, f_min, f_cV1, f_cV0, f_cS1, f_cS0, f_iret, f_lret, f_vret, f_kG, pf0, cIg, inR, lget, lset, lset2, clr, entL, cnd, psh, catS, tsw, List.take_succ_cons, List.take_zero, List.drop_succ_cons, List.drop_zero, List.reverse_cons, List.reverse_nil, List.nil_append, List.cons_append, List.length_cons, List.length_nil, List.replicate_succ, List.replicate_zero, Nat.reduceAdd, Nat.reduceSub, Nat.reduceLeDiff, Nat.reduceLT, Nat.reduceEqDiff, Nat.reduceMul, Nat.zero_add, Nat.add_zero, Nat.le_refl, Nat.zero_le, Int.reduceEq, Int.reduceToNat, Int.toNat_natCast, Int.reduceNeg, Int.reduceAdd, Int.reduceSub, Int.reduceMul, Int.reduceLT, Int.reduceLE, Int.reduceDiv, Int.reduceMod, Bool.false_eq_true, ↓reduceIte, true_and, and_true, implies_true, forall_const, true_or, or_true, or_false, false_or, not_true_eq_false, not_false_eq_true, false_implies, Prod.mk.injEq, Fin.val_zero, Fin.val_one, Fin.isValue, Fin.reduceFinMk, Fin.val_two, mR_uI, mK_uI, mN_uI, mI_uR, mK_uR, mN_uR, mR_uC, mK_uC, mN_uC, Option.some.injEq, Sum.inl.injEq, Sum.inr.injEq, decide_true, decide_false, Bool.or_false, Bool.false_or, Bool.or_true, Bool.true_or, Nat.reduceBEq, beq_self_eq_true, show tb 1 = tb_1 from rfl, tb_1, tb_1_0, tb_1_1, tb_1_2, tb_1_3, hge]
    first | exact h9 | exact ⟨fun _ => h9, fun h => absurd hge h⟩
  | succ d ih =>
    intro t M1 ht hC hS
    have hge : ¬ (4 : Int) ≤ (t : Int) := by omega
    have hz1 := hC.1
    have k0 : mK M1 0 = 0 := by rw [hC.k]; rfl
    have r0 : mR M1 0 13 = some 13 := by rw [hC.r]; rfl
    refine G_w (pf0_ok X) LK_1 (fun i => false) 20 _ _ _ _ ?_
    simp only [f_0, f_s, f_iconst, f_bipush, f_sipush, f_ldc, f_ldc_w, f_ldc2_w, f_ldI, f_ldL, f_ldA, f_iload, f_iload_n, f_lload, f_lload_n, f_aload, f_aload_n, f_istore, f_istore_n, f_lstore, f_lstore_n, f_astore, f_astore_n, f_iinc, f_icI, f_iadd, f_isub, f_imul, f_idiv, f_irem, f_iand, f_ior, f_ixor, f_ishl, f_ishr, f_iushr, f_i2l, f_i2b, f_i2s, f_ladd, f_lmul, f_lcmp, f_dupI, f_dupR, f_dup2, f_pop, f_goto, f_if, f_icmp, f_tab, f_ts0, f_ts1, f_getI, f_getZ, f_getR, f_putI, f_putR, f_gets, f_iald, f_bald, f_aald, f_iast, f_bast, f_aast, f_alen, f_new, f_newa, f_anew, f_virt, f_stat0, f_stat1, f_spec0, f_spec1, f_spec9, f_copy, f_max, f_min, f_cV1, f_cV0, f_cS1, f_cS0, f_iret, f_lret, f_vret, f_kG, pf0, cIg, inR, lget, lset, lset2, clr, entL, cnd, psh, catS, tsw, List.take_succ_cons, List.take_zero, List.drop_succ_cons, List.drop_zero, List.reverse_cons, List.reverse_nil, List.nil_append, List.cons_append, List.length_cons, List.length_nil, List.replicate_succ, List.replicate_zero, Nat.reduceAdd, Nat.reduceSub, Nat.reduceLeDiff, Nat.reduceLT, Nat.reduceEqDiff, Nat.reduceMul, Nat.zero_add, Nat.add_zero, Nat.le_refl, Nat.zero_le, Int.reduceEq, Int.reduceToNat, Int.toNat_natCast, Int.reduceNeg, Int.reduceAdd, Int.reduceSub, Int.reduceMul, Int.reduceLT, Int.reduceLE, Int.reduceDiv, Int.reduceMod, Bool.false_eq_true, ↓reduceIte, true_and, and_true, implies_true, forall_const, true_or, or_true, or_false, false_or, not_true_eq_false, not_false_eq_true, false_implies, Prod.mk.injEq, Fin.val_zero, Fin.val_one, Fin.isValue, Fin.reduceFinMk, Fin.val_two, mR_uI, mK_uI, mN_uI, mI_uR, mK_uR, mN_uR, mR_uC, mK_uC, mN_uC, Option.some.injEq, Sum.inl.injEq, Sum.inr.injEq, decide_true, decide_false, Bool.or_false, Bool.false_or, Bool.or_true, Bool.true_or, Nat.reduceBEq, beq_self_eq_true, show tb 1 = tb_1 from rfl, tb_1, tb_1_0, tb_1_1, tb_1_2, tb_1_3, mZ_uN, mS_uN, hge, hz1, k0, r0]
    (repeat' (first | with_reducible apply And.intro | with_reducible intro _)) <;> (try omega)
    refine ⟨(1, 60), ⟨by simp only []; omega, by simp only []; omega⟩, Ev_mono (e_newS X (uN M1 7 3) (51 + 2 * t) (by omega) (by rw [mZ_uN, hz1]) (sht_f t (by omega)) (by rw [cl_uN, if_pos hz1.symm])) (fun q M2 hr z2 s2 => ?_)⟩
    obtain ⟨rfl, hL2⟩ := hr
    simp only [mZ_uN, mS_uN, hz1] at z2 s2
    have c2 := Gx.bl hC (show 51 + 2 * t < 51 + 2 * t + 2 by omega) (by omega) hL2 z2
    have k1 : mK M2 13 = 37 := by rw [c2.k]; rfl
    have n1 : mN M2 13 = 4 := by rw [c2.l]; rfl
    have k2 : mK M2 (51 + 2 * t) = 7 := by
      rw [c2.k, Gx, if_neg (by omega), if_neg (by omega), if_neg (by omega), if_neg (by omega), if_pos (by omega)]
      exact (sht_f t (by omega)).1
    have c3 := Gx.r3 c2 t (some (51 + 2 * t))
    rw [show upC (V3 t) t (some (51 + 2 * t)) = V3 (t + 1) from upT, show 51 + 2 * t + 2 = 51 + 2 * (t + 1) by omega] at c3
    have h9 := ih (t + 1) _ (by omega) c3 (by rw [mS_uR]; omega)
    simp only [f_kG, psh, Nat.reduceAdd]
    refine G_w (pf0_ok X) LK_1 (fun i => i == 76) 20 _ _ _ _ ?_
    simp only [f_0, f_s, f_iconst, f_bipush, f_sipush, f_ldc, f_ldc_w, f_ldc2_w, f_ldI, f_ldL, f_ldA, f_iload, f_iload_n, f_lload, f_lload_n, f_aload, f_aload_n, f_istore, f_istore_n, f_lstore, f_lstore_n, f_astore, f_astore_n, f_iinc, f_icI, f_iadd, f_isub, f_imul, f_idiv, f_irem, f_iand, f_ior, f_ixor, f_ishl, f_ishr, f_iushr, f_i2l, f_i2b, f_i2s, f_ladd, f_lmul, f_lcmp, f_dupI, f_dupR, f_dup2, f_pop, f_goto, f_if, f_icmp, f_tab, f_ts0, f_ts1, f_getI, f_getZ, f_getR, f_putI, f_putR, f_gets, f_iald, f_bald, f_aald, f_iast, f_bast, f_aast, f_alen, f_new, f_newa, f_anew, f_virt, f_stat0, f_stat1, f_spec0, f_spec1, f_spec9, f_copy, f_max, f_min, f_cV1, f_cV0, f_cS1, f_cS0, f_iret, f_lret, f_vret, f_kG, pf0, cIg, inR, lget, lset, lset2, clr, entL, cnd, psh, catS, tsw, List.take_succ_cons, List.take_zero, List.drop_succ_cons, List.drop_zero, List.reverse_cons, List.reverse_nil, List.nil_append, List.cons_append, List.length_cons, List.length_nil, List.replicate_succ, List.replicate_zero, Nat.reduceAdd, Nat.reduceSub, Nat.reduceLeDiff, Nat.reduceLT, Nat.reduceEqDiff, Nat.reduceMul, Nat.zero_add, Nat.add_zero, Nat.le_refl, Nat.zero_le, Int.reduceEq, Int.reduceToNat, Int.toNat_natCast, Int.reduceNeg, Int.reduceAdd, Int.reduceSub, Int.reduceMul, Int.reduceLT, Int.reduceLE, Int.reduceDiv, Int.reduceMod, Bool.false_eq_true, ↓reduceIte, true_and, and_true, implies_true, forall_const, true_or, or_true, or_false, false_or, not_true_eq_false, not_false_eq_true, false_implies, Prod.mk.injEq, Fin.val_zero, Fin.val_one, Fin.isValue, Fin.reduceFinMk, Fin.val_two, mR_uI, mK_uI, mN_uI, mI_uR, mK_uR, mN_uR, mR_uC, mK_uC, mN_uC, Option.some.injEq, Sum.inl.injEq, Sum.inr.injEq, decide_true, decide_false, Bool.or_false, Bool.false_or, Bool.or_true, Bool.true_or, Nat.reduceBEq, beq_self_eq_true, show tb 1 = tb_1 from rfl, tb_1, tb_1_0, tb_1_1, tb_1_2, tb_1_3, k1, n1, k2]
    (repeat' (first | with_reducible apply And.intro | with_reducible intro _)) <;> (try omega)
    all_goals exact h9
set_option maxRecDepth 100000 in
set_option maxHeartbeats 4000000 in
theorem nx_values (X : CX) (M : Mem) (hz : mZ M = 1) : ∀ (d t : Nat) (M1 : Mem), t + d = 7 → Cn M1 (30 + 3 * t) (Gx M (30 + 3 * t) R0 (V1 8) (V2 t) (arr 37 4)) → mS M1 = mS M + 792 + 65 * t → G X y_x_init (mZ M, mS M, 520, 12000) 60 [some (aR (some 0)), some (aI t)] [] M1 (KX M) := by
  have big : 900000 < BIG := Nat.le_of_ble_eq_true rfl
  intro d
  induction d with
  | zero =>
    intro t M1 ht hC hS
    have ht4 : t = 7 := by omega
    subst ht4
    have hge : (7 : Int) ≤ ((7 : Nat) : Int) := by omega
    have k0 : mK M1 0 = 0 := by rw [hC.k]; rfl
    have r0 : mR M1 0 1 = some 2 := by rw [hC.r]; rfl
    have k1 : mK M1 2 = 32 := by rw [hC.k]; rfl
    have n1 : mN M1 2 = 7 := by rw [hC.l]; rfl
    rw [V0 (k0 := 37) (n := 4) (b := 51) (s := 2)] at hC
    have h9 := nx_sheets X M hz 4 0 M1 rfl hC (by omega)
    refine G_w (pf0_ok X) LK_1 (fun i => i == 76) 20 _ _ _ _ ?_
    simp only [f_0, f_s, f_iconst, f_bipush, f_sipush, f_ldc, f_ldc_w, f_ldc2_w, f_ldI, f_ldL, f_ldA, f_iload, f_iload_n, f_lload, f_lload_n, f_aload, f_aload_n, f_istore, f_istore_n, f_lstore, f_lstore_n, f_astore, f_astore_n, f_iinc, f_icI, f_iadd, f_isub, f_imul, f_idiv, f_irem, f_iand, f_ior, f_ixor, f_ishl, f_ishr, f_iushr, f_i2l, f_i2b, f_i2s, f_ladd, f_lmul, f_lcmp, f_dupI, f_dupR, f_dup2, f_pop, f_goto, f_if, f_icmp, f_tab, f_ts0, f_ts1, f_getI, f_getZ, f_getR, f_putI, f_putR, f_gets, f_iald, f_bald, f_aald, f_iast, f_bast, f_aast, f_alen, f_new, f_newa, f_anew, f_virt, f_stat0, f_stat1, f_spec0, f_spec1, f_spec9, f_copy, f_max, f_min, f_cV1, f_cV0, f_cS1, f_cS0, f_iret, f_lret, f_vret, f_kG, pf0, cIg, inR, lget, lset, lset2, clr, entL, cnd, psh, catS, tsw, List.take_succ_cons, List.take_zero, List.drop_succ_cons, List.drop_zero, List.reverse_cons, List.reverse_nil, List.nil_append, List.cons_append, List.length_cons, List.length_nil, List.replicate_succ, List.replicate_zero, Nat.reduceAdd, Nat.reduceSub, Nat.reduceLeDiff, Nat.reduceLT, Nat.reduceEqDiff, Nat.reduceMul, Nat.zero_add, Nat.add_zero, Nat.le_refl, Nat.zero_le, Int.reduceEq, Int.reduceToNat, Int.toNat_natCast, Int.reduceNeg, Int.reduceAdd, Int.reduceSub, Int.reduceMul, Int.reduceLT, Int.reduceLE, Int.reduceDiv, Int.reduceMod, Bool.false_eq_true, ↓reduceIte, true_and, and_true, implies_true, forall_const, true_or, or_true, or_false, false_or, not_true_eq_false, not_false_eq_true, false_implies, Prod.mk.injEq, Fin.val_zero, Fin.val_one, Fin.isValue, Fin.reduceFinMk, Fin.val_two, mR_uI, mK_uI, mN_uI, mI_uR, mK_uR, mN_uR, mR_uC, mK_uC, mN_uC, Option.some.injEq, Sum.inl.injEq, Sum.inr.injEq, decide_true, decide_false, Bool.or_false, Bool.false_or, Bool.or_true, Bool.true_or, Nat.reduceBEq, beq_self_eq_true, show tb 1 = tb_1 from rfl, tb_1, tb_1_0, tb_1_1, tb_1_2, tb_1_3, k0, r0, k1, n1]
    first | exact h9 | exact ⟨fun _ => h9, fun h => absurd hge h⟩
  | succ d ih =>
    intro t M1 ht hC hS
    have hge : ¬ (7 : Int) ≤ (t : Int) := by omega
    have hz1 := hC.1
    have k0 : mK M1 0 = 0 := by rw [hC.k]; rfl
    have r0 : mR M1 0 1 = some 2 := by rw [hC.r]; rfl
    have k1 : mK M1 2 = 32 := by rw [hC.k]; rfl
    have n1 : mN M1 2 = 7 := by rw [hC.l]; rfl
    have e7 : ((7 : Nat) : Int) = 7 := rfl
    refine G_w (pf0_ok X) LK_1 (fun i => false) 20 _ _ _ _ ?_
    simp only [f_0, f_s, f_iconst, f_bipush, f_sipush, f_ldc, f_ldc_w, f_ldc2_w, f_ldI, f_ldL, f_ldA, f_iload, f_iload_n, f_lload, f_lload_n, f_aload, f_aload_n, f_istore, f_istore_n, f_lstore, f_lstore_n, f_astore, f_astore_n, f_iinc, f_icI, f_iadd, f_isub, f_imul, f_idiv, f_irem, f_iand, f_ior, f_ixor, f_ishl, f_ishr, f_iushr, f_i2l, f_i2b, f_i2s, f_ladd, f_lmul, f_lcmp, f_dupI, f_dupR, f_dup2, f_pop, f_goto, f_if, f_icmp, f_tab, f_ts0, f_ts1, f_getI, f_getZ, f_getR, f_putI, f_putR, f_gets, f_iald, f_bald, f_aald, f_iast, f_bast, f_aast, f_alen, f_new, f_newa, f_anew, f_virt, f_stat0, f_stat1, f_spec0, f_spec1, f_spec9, f_copy, f_max, f_min, f_cV1, f_cV0, f_cS1, f_cS0, f_iret, f_lret, f_vret, f_kG, pf0, cIg, inR, lget, lset, lset2, clr, entL, cnd, psh, catS, tsw, List.take_succ_cons, List.take_zero, List.drop_succ_cons, List.drop_zero, List.reverse_cons, List.reverse_nil, List.nil_append, List.cons_append, List.length_cons, List.length_nil, List.replicate_succ, List.replicate_zero, Nat.reduceAdd, Nat.reduceSub, Nat.reduceLeDiff, Nat.reduceLT, Nat.reduceEqDiff, Nat.reduceMul, Nat.zero_add, Nat.add_zero, Nat.le_refl, Nat.zero_le, Int.reduceEq, Int.reduceToNat, Int.toNat_natCast, Int.reduceNeg, Int.reduceAdd, Int.reduceSub, Int.reduceMul, Int.reduceLT, Int.reduceLE, Int.reduceDiv, Int.reduceMod, Bool.false_eq_true, ↓reduceIte, true_and, and_true, implies_true, forall_const, true_or, or_true, or_false, false_or, not_true_eq_false, not_false_eq_true, false_implies, Prod.mk.injEq, Fin.val_zero, Fin.val_one, Fin.isValue, Fin.reduceFinMk, Fin.val_two, mR_uI, mK_uI, mN_uI, mI_uR, mK_uR, mN_uR, mR_uC, mK_uC, mN_uC, Option.some.injEq, Sum.inl.injEq, Sum.inr.injEq, decide_true, decide_false, Bool.or_false, Bool.false_or, Bool.or_true, Bool.true_or, Nat.reduceBEq, beq_self_eq_true, show tb 1 = tb_1 from rfl, tb_1, tb_1_0, tb_1_1, tb_1_2, tb_1_3, mZ_uN, mS_uN, hz1, k0, r0, k1, n1, e7, hge]
    (repeat' (first | with_reducible apply And.intro | with_reducible intro _)) <;> (try omega)
    refine ⟨(2, 60), ⟨by simp only []; omega, by simp only []; omega⟩, Ev_mono (e_newP X (uN M1 2 5) (30 + 3 * t) (by omega) (by rw [mZ_uN, hz1]) (val_f t (by omega)) (by rw [cl_uN, if_pos hz1.symm])) (fun q M2 hr z2 s2 => ?_)⟩
    obtain ⟨rfl, hL2⟩ := hr
    simp only [mZ_uN, mS_uN, hz1] at z2 s2
    have c2 := Gx.bl hC (show 30 + 3 * t < 30 + 3 * t + 3 by omega) (by omega) hL2 z2
    have k2 : mK M2 2 = 32 := by rw [c2.k]; rfl
    have n2 : mN M2 2 = 7 := by rw [c2.l]; rfl
    have k3 : mK M2 (30 + 3 * t) = 2 := by
      rw [c2.k, Gx, if_neg (by omega), if_neg (by omega), if_neg (by omega), if_neg (by omega), if_pos (by omega)]
      exact val_f t (by omega)
    have c3 := Gx.r2 c2 t (some (30 + 3 * t))
    rw [show upC (V2 t) t (some (30 + 3 * t)) = V2 (t + 1) from upT, show 30 + 3 * t + 3 = 30 + 3 * (t + 1) by omega] at c3
    have h9 := ih (t + 1) _ (by omega) c3 (by rw [mS_uR]; omega)
    simp only [f_kG, psh, Nat.reduceAdd]
    refine G_w (pf0_ok X) LK_1 (fun i => i == 60) 20 _ _ _ _ ?_
    simp only [f_0, f_s, f_iconst, f_bipush, f_sipush, f_ldc, f_ldc_w, f_ldc2_w, f_ldI, f_ldL, f_ldA, f_iload, f_iload_n, f_lload, f_lload_n, f_aload, f_aload_n, f_istore, f_istore_n, f_lstore, f_lstore_n, f_astore, f_astore_n, f_iinc, f_icI, f_iadd, f_isub, f_imul, f_idiv, f_irem, f_iand, f_ior, f_ixor, f_ishl, f_ishr, f_iushr, f_i2l, f_i2b, f_i2s, f_ladd, f_lmul, f_lcmp, f_dupI, f_dupR, f_dup2, f_pop, f_goto, f_if, f_icmp, f_tab, f_ts0, f_ts1, f_getI, f_getZ, f_getR, f_putI, f_putR, f_gets, f_iald, f_bald, f_aald, f_iast, f_bast, f_aast, f_alen, f_new, f_newa, f_anew, f_virt, f_stat0, f_stat1, f_spec0, f_spec1, f_spec9, f_copy, f_max, f_min, f_cV1, f_cV0, f_cS1, f_cS0, f_iret, f_lret, f_vret, f_kG, pf0, cIg, inR, lget, lset, lset2, clr, entL, cnd, psh, catS, tsw, List.take_succ_cons, List.take_zero, List.drop_succ_cons, List.drop_zero, List.reverse_cons, List.reverse_nil, List.nil_append, List.cons_append, List.length_cons, List.length_nil, List.replicate_succ, List.replicate_zero, Nat.reduceAdd, Nat.reduceSub, Nat.reduceLeDiff, Nat.reduceLT, Nat.reduceEqDiff, Nat.reduceMul, Nat.zero_add, Nat.add_zero, Nat.le_refl, Nat.zero_le, Int.reduceEq, Int.reduceToNat, Int.toNat_natCast, Int.reduceNeg, Int.reduceAdd, Int.reduceSub, Int.reduceMul, Int.reduceLT, Int.reduceLE, Int.reduceDiv, Int.reduceMod, Bool.false_eq_true, ↓reduceIte, true_and, and_true, implies_true, forall_const, true_or, or_true, or_false, false_or, not_true_eq_false, not_false_eq_true, false_implies, Prod.mk.injEq, Fin.val_zero, Fin.val_one, Fin.isValue, Fin.reduceFinMk, Fin.val_two, mR_uI, mK_uI, mN_uI, mI_uR, mK_uR, mN_uR, mR_uC, mK_uC, mN_uC, Option.some.injEq, Sum.inl.injEq, Sum.inr.injEq, decide_true, decide_false, Bool.or_false, Bool.false_or, Bool.or_true, Bool.true_or, Nat.reduceBEq, beq_self_eq_true, show tb 1 = tb_1 from rfl, tb_1, tb_1_0, tb_1_1, tb_1_2, tb_1_3, k2, n2, k3]
    (repeat' (first | with_reducible apply And.intro | with_reducible intro _)) <;> (try omega)
    all_goals exact h9
set_option maxRecDepth 100000 in
set_option maxHeartbeats 4000000 in
theorem nx_texts (X : CX) (M : Mem) (hz : mZ M = 1) : ∀ (d t : Nat) (M1 : Mem), t + d = 8 → Cn M1 (14 + 2 * t) (Gx M (14 + 2 * t) R0 (V1 t) (arr 32 7) (arr 37 4)) → mS M1 = mS M + 528 + 33 * t → G X y_x_init (mZ M, mS M, 520, 12000) 40 [some (aR (some 0)), some (aI t)] [] M1 (KX M) := by
  have big : 900000 < BIG := Nat.le_of_ble_eq_true rfl
  intro d
  induction d with
  | zero =>
    intro t M1 ht hC hS
    have ht4 : t = 8 := by omega
    subst ht4
    have hge : (8 : Int) ≤ ((8 : Nat) : Int) := by omega
    rw [V0 (k0 := 32) (n := 7) (b := 30) (s := 3)] at hC
    have h9 := nx_values X M hz 7 0 M1 rfl hC (by omega)
    refine G_w (pf0_ok X) LK_1 (fun i => i == 60) 20 _ _ _ _ ?_
    simp only [f_0, f_s, f_iconst, f_bipush, f_sipush, f_ldc, f_ldc_w, f_ldc2_w, f_ldI, f_ldL, f_ldA, f_iload, f_iload_n, f_lload, f_lload_n, f_aload, f_aload_n, f_istore, f_istore_n, f_lstore, f_lstore_n, f_astore, f_astore_n, f_iinc, f_icI, f_iadd, f_isub, f_imul, f_idiv, f_irem, f_iand, f_ior, f_ixor, f_ishl, f_ishr, f_iushr, f_i2l, f_i2b, f_i2s, f_ladd, f_lmul, f_lcmp, f_dupI, f_dupR, f_dup2, f_pop, f_goto, f_if, f_icmp, f_tab, f_ts0, f_ts1, f_getI, f_getZ, f_getR, f_putI, f_putR, f_gets, f_iald, f_bald, f_aald, f_iast, f_bast, f_aast, f_alen, f_new, f_newa, f_anew, f_virt, f_stat0, f_stat1, f_spec0, f_spec1, f_spec9, f_copy, f_max, f_min, f_cV1, f_cV0, f_cS1, f_cS0, f_iret, f_lret, f_vret, f_kG, pf0, cIg, inR, lget, lset, lset2, clr, entL, cnd, psh, catS, tsw, List.take_succ_cons, List.take_zero, List.drop_succ_cons, List.drop_zero, List.reverse_cons, List.reverse_nil, List.nil_append, List.cons_append, List.length_cons, List.length_nil, List.replicate_succ, List.replicate_zero, Nat.reduceAdd, Nat.reduceSub, Nat.reduceLeDiff, Nat.reduceLT, Nat.reduceEqDiff, Nat.reduceMul, Nat.zero_add, Nat.add_zero, Nat.le_refl, Nat.zero_le, Int.reduceEq, Int.reduceToNat, Int.toNat_natCast, Int.reduceNeg, Int.reduceAdd, Int.reduceSub, Int.reduceMul, Int.reduceLT, Int.reduceLE, Int.reduceDiv, Int.reduceMod, Bool.false_eq_true, ↓reduceIte, true_and, and_true, implies_true, forall_const, true_or, or_true, or_false, false_or, not_true_eq_false, not_false_eq_true, false_implies, Prod.mk.injEq, Fin.val_zero, Fin.val_one, Fin.isValue, Fin.reduceFinMk, Fin.val_two, mR_uI, mK_uI, mN_uI, mI_uR, mK_uR, mN_uR, mR_uC, mK_uC, mN_uC, Option.some.injEq, Sum.inl.injEq, Sum.inr.injEq, decide_true, decide_false, Bool.or_false, Bool.false_or, Bool.or_true, Bool.true_or, Nat.reduceBEq, beq_self_eq_true, show tb 1 = tb_1 from rfl, tb_1, tb_1_0, tb_1_1, tb_1_2, tb_1_3, hge]
    first | exact h9 | exact ⟨fun _ => h9, fun h => absurd hge h⟩
  | succ d ih =>
    intro t M1 ht hC hS
    have hge : ¬ (8 : Int) ≤ (t : Int) := by omega
    have hz1 := hC.1
    have k0 : mK M1 0 = 0 := by rw [hC.k]; rfl
    have r0 : mR M1 0 0 = some 1 := by rw [hC.r]; rfl
    obtain ⟨g1, g2, g3, g4⟩ := txt_f t (by omega)
    have fin : ∀ (most : Nat), most ≤ 30 → SN0 (14 + 2 * t + 1) = most → Ev X y_Text_init (1, 30) [aR (some (14 + 2 * t)), aI most] (uN M1 1 3) (kG X y_x_init (mZ M, mS M, 520, 12000) (KX M) 54 [some (aR (some 0)), some (aI t)] [aR (some (14 + 2 * t)), aI t, aR (some 1)]) := by
      intro most hm hs0
      refine Ev_mono (e_newT X (uN M1 1 3) (14 + 2 * t) most (by omega) hm (by rw [mZ_uN, hz1]) ⟨g1, g2, g3, hs0⟩ (by rw [cl_uN, if_pos hz1.symm])) (fun q M2 hr z2 s2 => ?_)
      obtain ⟨rfl, hL2⟩ := hr
      simp only [mZ_uN, mS_uN, hz1] at z2 s2
      have c2 := Gx.bl hC (show 14 + 2 * t < 14 + 2 * t + 2 by omega) (by omega) hL2 z2
      have k1 : mK M2 1 = 31 := by rw [c2.k]; rfl
      have n1 : mN M2 1 = 8 := by rw [c2.l]; rfl
      have k2 : mK M2 (14 + 2 * t) = 1 := by
        rw [c2.k, Gx, if_neg (by omega), if_neg (by omega), if_neg (by omega), if_neg (by omega), if_pos (by omega)]
        exact g1
      have c3 := Gx.r1 c2 t (some (14 + 2 * t))
      rw [show upC (V1 t) t (some (14 + 2 * t)) = V1 (t + 1) from upT, show 14 + 2 * t + 2 = 14 + 2 * (t + 1) by omega] at c3
      have h9 := ih (t + 1) _ (by omega) c3 (by rw [mS_uR]; omega)
      simp only [f_kG, psh, Nat.reduceAdd]
      refine G_w (pf0_ok X) LK_1 (fun i => i == 40) 20 _ _ _ _ ?_
      simp only [f_0, f_s, f_iconst, f_bipush, f_sipush, f_ldc, f_ldc_w, f_ldc2_w, f_ldI, f_ldL, f_ldA, f_iload, f_iload_n, f_lload, f_lload_n, f_aload, f_aload_n, f_istore, f_istore_n, f_lstore, f_lstore_n, f_astore, f_astore_n, f_iinc, f_icI, f_iadd, f_isub, f_imul, f_idiv, f_irem, f_iand, f_ior, f_ixor, f_ishl, f_ishr, f_iushr, f_i2l, f_i2b, f_i2s, f_ladd, f_lmul, f_lcmp, f_dupI, f_dupR, f_dup2, f_pop, f_goto, f_if, f_icmp, f_tab, f_ts0, f_ts1, f_getI, f_getZ, f_getR, f_putI, f_putR, f_gets, f_iald, f_bald, f_aald, f_iast, f_bast, f_aast, f_alen, f_new, f_newa, f_anew, f_virt, f_stat0, f_stat1, f_spec0, f_spec1, f_spec9, f_copy, f_max, f_min, f_cV1, f_cV0, f_cS1, f_cS0, f_iret, f_lret, f_vret, f_kG, pf0, cIg, inR, lget, lset, lset2, clr, entL, cnd, psh, catS, tsw, List.take_succ_cons, List.take_zero, List.drop_succ_cons, List.drop_zero, List.reverse_cons, List.reverse_nil, List.nil_append, List.cons_append, List.length_cons, List.length_nil, List.replicate_succ, List.replicate_zero, Nat.reduceAdd, Nat.reduceSub, Nat.reduceLeDiff, Nat.reduceLT, Nat.reduceEqDiff, Nat.reduceMul, Nat.zero_add, Nat.add_zero, Nat.le_refl, Nat.zero_le, Int.reduceEq, Int.reduceToNat, Int.toNat_natCast, Int.reduceNeg, Int.reduceAdd, Int.reduceSub, Int.reduceMul, Int.reduceLT, Int.reduceLE, Int.reduceDiv, Int.reduceMod, Bool.false_eq_true, ↓reduceIte, true_and, and_true, implies_true, forall_const, true_or, or_true, or_false, false_or, not_true_eq_false, not_false_eq_true, false_implies, Prod.mk.injEq, Fin.val_zero, Fin.val_one, Fin.isValue, Fin.reduceFinMk, Fin.val_two, mR_uI, mK_uI, mN_uI, mI_uR, mK_uR, mN_uR, mR_uC, mK_uC, mN_uC, Option.some.injEq, Sum.inl.injEq, Sum.inr.injEq, decide_true, decide_false, Bool.or_false, Bool.false_or, Bool.or_true, Bool.true_or, Nat.reduceBEq, beq_self_eq_true, show tb 1 = tb_1 from rfl, tb_1, tb_1_0, tb_1_1, tb_1_2, tb_1_3, k1, n1, k2]
      (repeat' (first | with_reducible apply And.intro | with_reducible intro _)) <;> (try omega)
      all_goals exact h9
    by_cases h7 : t = 7
    · have i7 : (t : Int) = 7 := by omega
      have h9 := fin 3 (by omega) (by rw [g4, if_pos h7])
      refine G_w (pf0_ok X) LK_1 (fun i => false) 20 _ _ _ _ ?_
      simp only [f_0, f_s, f_iconst, f_bipush, f_sipush, f_ldc, f_ldc_w, f_ldc2_w, f_ldI, f_ldL, f_ldA, f_iload, f_iload_n, f_lload, f_lload_n, f_aload, f_aload_n, f_istore, f_istore_n, f_lstore, f_lstore_n, f_astore, f_astore_n, f_iinc, f_icI, f_iadd, f_isub, f_imul, f_idiv, f_irem, f_iand, f_ior, f_ixor, f_ishl, f_ishr, f_iushr, f_i2l, f_i2b, f_i2s, f_ladd, f_lmul, f_lcmp, f_dupI, f_dupR, f_dup2, f_pop, f_goto, f_if, f_icmp, f_tab, f_ts0, f_ts1, f_getI, f_getZ, f_getR, f_putI, f_putR, f_gets, f_iald, f_bald, f_aald, f_iast, f_bast, f_aast, f_alen, f_new, f_newa, f_anew, f_virt, f_stat0, f_stat1, f_spec0, f_spec1, f_spec9, f_copy, f_max, f_min, f_cV1, f_cV0, f_cS1, f_cS0, f_iret, f_lret, f_vret, f_kG, pf0, cIg, inR, lget, lset, lset2, clr, entL, cnd, psh, catS, tsw, List.take_succ_cons, List.take_zero, List.drop_succ_cons, List.drop_zero, List.reverse_cons, List.reverse_nil, List.nil_append, List.cons_append, List.length_cons, List.length_nil, List.replicate_succ, List.replicate_zero, Nat.reduceAdd, Nat.reduceSub, Nat.reduceLeDiff, Nat.reduceLT, Nat.reduceEqDiff, Nat.reduceMul, Nat.zero_add, Nat.add_zero, Nat.le_refl, Nat.zero_le, Int.reduceEq, Int.reduceToNat, Int.toNat_natCast, Int.reduceNeg, Int.reduceAdd, Int.reduceSub, Int.reduceMul, Int.reduceLT, Int.reduceLE, Int.reduceDiv, Int.reduceMod, Bool.false_eq_true, ↓reduceIte, true_and, and_true, implies_true, forall_const, true_or, or_true, or_false, false_or, not_true_eq_false, not_false_eq_true, false_implies, Prod.mk.injEq, Fin.val_zero, Fin.val_one, Fin.isValue, Fin.reduceFinMk, Fin.val_two, mR_uI, mK_uI, mN_uI, mI_uR, mK_uR, mN_uR, mR_uC, mK_uC, mN_uC, Option.some.injEq, Sum.inl.injEq, Sum.inr.injEq, decide_true, decide_false, Bool.or_false, Bool.false_or, Bool.or_true, Bool.true_or, Nat.reduceBEq, beq_self_eq_true, show tb 1 = tb_1 from rfl, tb_1, tb_1_0, tb_1_1, tb_1_2, tb_1_3, mZ_uN, mS_uN, hge, hz1, k0, r0, i7]
      (repeat' (first | with_reducible apply And.intro | with_reducible intro _)) <;> (try omega)
      refine ⟨(1, 30), ⟨by simp only []; omega, by simp only []; omega⟩, ?_⟩
      rw [i7] at h9
      exact h9
    · have i7 : ¬ (t : Int) = 7 := by omega
      have h9 := fin 30 (by omega) (by rw [g4, if_neg h7])
      refine G_w (pf0_ok X) LK_1 (fun i => false) 20 _ _ _ _ ?_
      simp only [f_0, f_s, f_iconst, f_bipush, f_sipush, f_ldc, f_ldc_w, f_ldc2_w, f_ldI, f_ldL, f_ldA, f_iload, f_iload_n, f_lload, f_lload_n, f_aload, f_aload_n, f_istore, f_istore_n, f_lstore, f_lstore_n, f_astore, f_astore_n, f_iinc, f_icI, f_iadd, f_isub, f_imul, f_idiv, f_irem, f_iand, f_ior, f_ixor, f_ishl, f_ishr, f_iushr, f_i2l, f_i2b, f_i2s, f_ladd, f_lmul, f_lcmp, f_dupI, f_dupR, f_dup2, f_pop, f_goto, f_if, f_icmp, f_tab, f_ts0, f_ts1, f_getI, f_getZ, f_getR, f_putI, f_putR, f_gets, f_iald, f_bald, f_aald, f_iast, f_bast, f_aast, f_alen, f_new, f_newa, f_anew, f_virt, f_stat0, f_stat1, f_spec0, f_spec1, f_spec9, f_copy, f_max, f_min, f_cV1, f_cV0, f_cS1, f_cS0, f_iret, f_lret, f_vret, f_kG, pf0, cIg, inR, lget, lset, lset2, clr, entL, cnd, psh, catS, tsw, List.take_succ_cons, List.take_zero, List.drop_succ_cons, List.drop_zero, List.reverse_cons, List.reverse_nil, List.nil_append, List.cons_append, List.length_cons, List.length_nil, List.replicate_succ, List.replicate_zero, Nat.reduceAdd, Nat.reduceSub, Nat.reduceLeDiff, Nat.reduceLT, Nat.reduceEqDiff, Nat.reduceMul, Nat.zero_add, Nat.add_zero, Nat.le_refl, Nat.zero_le, Int.reduceEq, Int.reduceToNat, Int.toNat_natCast, Int.reduceNeg, Int.reduceAdd, Int.reduceSub, Int.reduceMul, Int.reduceLT, Int.reduceLE, Int.reduceDiv, Int.reduceMod, Bool.false_eq_true, ↓reduceIte, true_and, and_true, implies_true, forall_const, true_or, or_true, or_false, false_or, not_true_eq_false, not_false_eq_true, false_implies, Prod.mk.injEq, Fin.val_zero, Fin.val_one, Fin.isValue, Fin.reduceFinMk, Fin.val_two, mR_uI, mK_uI, mN_uI, mI_uR, mK_uR, mN_uR, mR_uC, mK_uC, mN_uC, Option.some.injEq, Sum.inl.injEq, Sum.inr.injEq, decide_true, decide_false, Bool.or_false, Bool.false_or, Bool.or_true, Bool.true_or, Nat.reduceBEq, beq_self_eq_true, show tb 1 = tb_1 from rfl, tb_1, tb_1_0, tb_1_1, tb_1_2, tb_1_3, mZ_uN, mS_uN, hge, hz1, k0, r0, i7]
      (repeat' (first | with_reducible apply And.intro | with_reducible intro _)) <;> (try omega)
      refine ⟨(1, 30), ⟨by simp only []; omega, by simp only []; omega⟩, ?_⟩
      exact h9
set_option maxRecDepth 100000 in
set_option maxHeartbeats 4000000 in
theorem e_newx (X : CX) (M : Mem) (hz : mZ M = 1) (hc : cl M 0 = arr 0 15) : Ev X y_x_init (520, 12000) [aR (some 0)] M (KX M) := by
  have big : 900000 < BIG := Nat.le_of_ble_eq_true rfl
  have k0 : mK M 0 = 0 := congrArg (fun c : Cel => c.1) hc
  have s0 : Cn M 1 (Gx M 1 (arr 0 15) (cl M 1) (cl M 2) (cl M 13)) := (Cn.st hz).cv (fun a => by
    rw [Gx]
    by_cases a0 : a = 0
    · rw [if_pos a0, a0, hc]
    · by_cases a1 : a = 1
      · rw [if_neg a0, if_pos a1, a1]
      · by_cases a2 : a = 2
        · rw [if_neg a0, if_neg a1, if_pos a2, a2]
        · by_cases a3 : a = 13
          · rw [if_neg a0, if_neg a1, if_neg a2, if_pos a3, a3]
          · rw [if_neg a0, if_neg a1, if_neg a2, if_neg a3, if_neg (by omega)])
  have s1 : Cn (uN M 31 8) 2 (Gx M 2 (arr 0 15) (arr 31 8) (cl M 2) (cl M 13)) := (s0.nN 31 8).cv (fun a => by
    by_cases a1 : a = 1
    · rw [if_pos a1, Gx, if_neg (by omega), if_pos a1]
    · rw [if_neg a1, Gx, Gx, if_neg a1, if_neg a1]
      by_cases a0 : a = 0
      · rw [if_pos a0, if_pos a0]
      · rw [if_neg a0, if_neg a0, if_neg (show ¬ a < 1 by omega), if_neg (show ¬ a < 2 by omega)])
  have s2 := Gx.r0 s1 0 (some 1)
  have s3 : Cn (uN (uR (uN M 31 8) 0 0 (some 1)) 32 7) 3 (Gx M 3 (upC (arr 0 15) 0 (some 1)) (arr 31 8) (arr 32 7) (cl M 13)) := (s2.nN 32 7).cv (fun a => by
    by_cases a2 : a = 2
    · rw [if_pos a2, Gx, if_neg (by omega), if_neg (by omega), if_pos a2]
    · rw [if_neg a2, Gx, Gx, if_neg a2, if_neg a2]
      by_cases a0 : a = 0
      · rw [if_pos a0, if_pos a0]
      · by_cases a1 : a = 1
        · rw [if_neg a0, if_neg a0, if_pos a1, if_pos a1]
        · rw [if_neg (show ¬ a < 2 by omega), if_neg (show ¬ a < 3 by omega)])
  have s4 := Gx.r0 s3 1 (some 2)
  have s5 := Gx.nw (k := 3) (m := 5) s4 (by omega) (cel_ext rfl rfl (fun k => SRR_a (a := 3) (by decide) k) (fun j => SI_0 (a := 3) (by decide) (by decide) j))
  refine Ev_of mcd_1 mok_1 (by decide) rfl (Nat.le_of_ble_eq_true rfl) ?_
  rw [show yl 1 = 2 from rfl]
  refine G_w (pf0_ok X) LK_1 (fun i => false) 40 _ _ _ _ ?_
  simp only [f_0, f_s, f_iconst, f_bipush, f_sipush, f_ldc, f_ldc_w, f_ldc2_w, f_ldI, f_ldL, f_ldA, f_iload, f_iload_n, f_lload, f_lload_n, f_aload, f_aload_n, f_istore, f_istore_n, f_lstore, f_lstore_n, f_astore, f_astore_n, f_iinc, f_icI, f_iadd, f_isub, f_imul, f_idiv, f_irem, f_iand, f_ior, f_ixor, f_ishl, f_ishr, f_iushr, f_i2l, f_i2b, f_i2s, f_ladd, f_lmul, f_lcmp, f_dupI, f_dupR, f_dup2, f_pop, f_goto, f_if, f_icmp, f_tab, f_ts0, f_ts1, f_getI, f_getZ, f_getR, f_putI, f_putR, f_gets, f_iald, f_bald, f_aald, f_iast, f_bast, f_aast, f_alen, f_new, f_newa, f_anew, f_virt, f_stat0, f_stat1, f_spec0, f_spec1, f_spec9, f_copy, f_max, f_min, f_cV1, f_cV0, f_cS1, f_cS0, f_iret, f_lret, f_vret, f_kG, pf0, cIg, inR, lget, lset, lset2, clr, entL, cnd, psh, catS, tsw, List.take_succ_cons, List.take_zero, List.drop_succ_cons, List.drop_zero, List.reverse_cons, List.reverse_nil, List.nil_append, List.cons_append, List.length_cons, List.length_nil, List.replicate_succ, List.replicate_zero, Nat.reduceAdd, Nat.reduceSub, Nat.reduceLeDiff, Nat.reduceLT, Nat.reduceEqDiff, Nat.reduceMul, Nat.zero_add, Nat.add_zero, Nat.le_refl, Nat.zero_le, Int.reduceEq, Int.reduceToNat, Int.toNat_natCast, Int.reduceNeg, Int.reduceAdd, Int.reduceSub, Int.reduceMul, Int.reduceLT, Int.reduceLE, Int.reduceDiv, Int.reduceMod, Bool.false_eq_true, ↓reduceIte, true_and, and_true, implies_true, forall_const, true_or, or_true, or_false, false_or, not_true_eq_false, not_false_eq_true, false_implies, Prod.mk.injEq, Fin.val_zero, Fin.val_one, Fin.isValue, Fin.reduceFinMk, Fin.val_two, mR_uI, mK_uI, mN_uI, mI_uR, mK_uR, mN_uR, mR_uC, mK_uC, mN_uC, Option.some.injEq, Sum.inl.injEq, Sum.inr.injEq, decide_true, decide_false, Bool.or_false, Bool.false_or, Bool.or_true, Bool.true_or, Nat.reduceBEq, beq_self_eq_true, show tb 1 = tb_1 from rfl, tb_1, tb_1_0, tb_1_1, tb_1_2, tb_1_3, mZ_uN, mS_uN, mZ_uR, mS_uR, mK_uN, hz, k0]
  (repeat' (first | with_reducible apply And.intro | with_reducible intro _)) <;> (try omega)
  refine ⟨(0, 0), ⟨by simp only []; omega, by simp only []; omega⟩, Ev_mono (e_newRd X _ 3) (fun q M1 hr z1 q1 => ?_)⟩
  obtain ⟨rfl, hs⟩ := hr
  simp only [mZ_uN, mS_uN, mZ_uR, mS_uR, hz, Nat.reduceAdd, Nat.add_zero] at z1 q1
  have t0 : Cn M1 4 (Gx M 4 (upC (upC (arr 0 15) 0 (some 1)) 1 (some 2)) (arr 31 8) (arr 32 7) (cl M 13)) := ⟨z1, fun a => (hs a).trans (s5.e a)⟩
  have k1 : mK M1 0 = 0 := by rw [t0.k]; rfl
  have t1 := Gx.r0 t0 2 (some 3)
  simp only [f_kG, psh, Nat.reduceAdd]
  refine G_w (pf0_ok X) LK_1 (fun i => false) 40 _ _ _ _ ?_
  simp only [f_0, f_s, f_iconst, f_bipush, f_sipush, f_ldc, f_ldc_w, f_ldc2_w, f_ldI, f_ldL, f_ldA, f_iload, f_iload_n, f_lload, f_lload_n, f_aload, f_aload_n, f_istore, f_istore_n, f_lstore, f_lstore_n, f_astore, f_astore_n, f_iinc, f_icI, f_iadd, f_isub, f_imul, f_idiv, f_irem, f_iand, f_ior, f_ixor, f_ishl, f_ishr, f_iushr, f_i2l, f_i2b, f_i2s, f_ladd, f_lmul, f_lcmp, f_dupI, f_dupR, f_dup2, f_pop, f_goto, f_if, f_icmp, f_tab, f_ts0, f_ts1, f_getI, f_getZ, f_getR, f_putI, f_putR, f_gets, f_iald, f_bald, f_aald, f_iast, f_bast, f_aast, f_alen, f_new, f_newa, f_anew, f_virt, f_stat0, f_stat1, f_spec0, f_spec1, f_spec9, f_copy, f_max, f_min, f_cV1, f_cV0, f_cS1, f_cS0, f_iret, f_lret, f_vret, f_kG, pf0, cIg, inR, lget, lset, lset2, clr, entL, cnd, psh, catS, tsw, List.take_succ_cons, List.take_zero, List.drop_succ_cons, List.drop_zero, List.reverse_cons, List.reverse_nil, List.nil_append, List.cons_append, List.length_cons, List.length_nil, List.replicate_succ, List.replicate_zero, Nat.reduceAdd, Nat.reduceSub, Nat.reduceLeDiff, Nat.reduceLT, Nat.reduceEqDiff, Nat.reduceMul, Nat.zero_add, Nat.add_zero, Nat.le_refl, Nat.zero_le, Int.reduceEq, Int.reduceToNat, Int.toNat_natCast, Int.reduceNeg, Int.reduceAdd, Int.reduceSub, Int.reduceMul, Int.reduceLT, Int.reduceLE, Int.reduceDiv, Int.reduceMod, Bool.false_eq_true, ↓reduceIte, true_and, and_true, implies_true, forall_const, true_or, or_true, or_false, false_or, not_true_eq_false, not_false_eq_true, false_implies, Prod.mk.injEq, Fin.val_zero, Fin.val_one, Fin.isValue, Fin.reduceFinMk, Fin.val_two, mR_uI, mK_uI, mN_uI, mI_uR, mK_uR, mN_uR, mR_uC, mK_uC, mN_uC, Option.some.injEq, Sum.inl.injEq, Sum.inr.injEq, decide_true, decide_false, Bool.or_false, Bool.false_or, Bool.or_true, Bool.true_or, Nat.reduceBEq, beq_self_eq_true, show tb 1 = tb_1 from rfl, tb_1, tb_1_0, tb_1_1, tb_1_2, tb_1_3, mZ_uN, mS_uN, mZ_uR, mS_uR, hz, z1, k1]
  (repeat' (first | with_reducible apply And.intro | with_reducible intro _)) <;> (try omega)
  refine ⟨(2, 60), ⟨by simp only []; omega, by simp only []; omega⟩, Ev_mono (e_newP X (uN (uR M1 0 2 (some 3)) 2 5) 4 (by omega) (by rw [mZ_uN, mZ_uR, z1]) (by decide) (by rw [cl_uN, if_pos (by rw [mZ_uR, z1])])) (fun q M2 hr z2 q2 => ?_)⟩
  obtain ⟨rfl, hL2⟩ := hr
  simp only [mZ_uN, mS_uN, mZ_uR, mS_uR, z1, Nat.reduceAdd] at z2 q2
  have t2 := Gx.bl t1 (by omega) (by omega) hL2 z2
  have k2 : mK M2 0 = 0 := by rw [t2.k]; rfl
  have t3 := Gx.r0 t2 7 (some 4)
  simp only [f_kG, psh, Nat.reduceAdd]
  refine G_w (pf0_ok X) LK_1 (fun i => false) 40 _ _ _ _ ?_
  simp only [f_0, f_s, f_iconst, f_bipush, f_sipush, f_ldc, f_ldc_w, f_ldc2_w, f_ldI, f_ldL, f_ldA, f_iload, f_iload_n, f_lload, f_lload_n, f_aload, f_aload_n, f_istore, f_istore_n, f_lstore, f_lstore_n, f_astore, f_astore_n, f_iinc, f_icI, f_iadd, f_isub, f_imul, f_idiv, f_irem, f_iand, f_ior, f_ixor, f_ishl, f_ishr, f_iushr, f_i2l, f_i2b, f_i2s, f_ladd, f_lmul, f_lcmp, f_dupI, f_dupR, f_dup2, f_pop, f_goto, f_if, f_icmp, f_tab, f_ts0, f_ts1, f_getI, f_getZ, f_getR, f_putI, f_putR, f_gets, f_iald, f_bald, f_aald, f_iast, f_bast, f_aast, f_alen, f_new, f_newa, f_anew, f_virt, f_stat0, f_stat1, f_spec0, f_spec1, f_spec9, f_copy, f_max, f_min, f_cV1, f_cV0, f_cS1, f_cS0, f_iret, f_lret, f_vret, f_kG, pf0, cIg, inR, lget, lset, lset2, clr, entL, cnd, psh, catS, tsw, List.take_succ_cons, List.take_zero, List.drop_succ_cons, List.drop_zero, List.reverse_cons, List.reverse_nil, List.nil_append, List.cons_append, List.length_cons, List.length_nil, List.replicate_succ, List.replicate_zero, Nat.reduceAdd, Nat.reduceSub, Nat.reduceLeDiff, Nat.reduceLT, Nat.reduceEqDiff, Nat.reduceMul, Nat.zero_add, Nat.add_zero, Nat.le_refl, Nat.zero_le, Int.reduceEq, Int.reduceToNat, Int.toNat_natCast, Int.reduceNeg, Int.reduceAdd, Int.reduceSub, Int.reduceMul, Int.reduceLT, Int.reduceLE, Int.reduceDiv, Int.reduceMod, Bool.false_eq_true, ↓reduceIte, true_and, and_true, implies_true, forall_const, true_or, or_true, or_false, false_or, not_true_eq_false, not_false_eq_true, false_implies, Prod.mk.injEq, Fin.val_zero, Fin.val_one, Fin.isValue, Fin.reduceFinMk, Fin.val_two, mR_uI, mK_uI, mN_uI, mI_uR, mK_uR, mN_uR, mR_uC, mK_uC, mN_uC, Option.some.injEq, Sum.inl.injEq, Sum.inr.injEq, decide_true, decide_false, Bool.or_false, Bool.false_or, Bool.or_true, Bool.true_or, Nat.reduceBEq, beq_self_eq_true, show tb 1 = tb_1 from rfl, tb_1, tb_1_0, tb_1_1, tb_1_2, tb_1_3, mZ_uN, mS_uN, mZ_uR, mS_uR, hz, z2, k2]
  (repeat' (first | with_reducible apply And.intro | with_reducible intro _)) <;> (try omega)
  refine ⟨(2, 60), ⟨by simp only []; omega, by simp only []; omega⟩, Ev_mono (e_newP X (uN (uR M2 0 7 (some 4)) 2 5) 7 (by omega) (by rw [mZ_uN, mZ_uR, z2]) (by decide) (by rw [cl_uN, if_pos (by rw [mZ_uR, z2])])) (fun q M3 hr z3 q3 => ?_)⟩
  obtain ⟨rfl, hL3⟩ := hr
  simp only [mZ_uN, mS_uN, mZ_uR, mS_uR, z2, Nat.reduceAdd] at z3 q3
  have t4 := Gx.bl t3 (by omega) (by omega) hL3 z3
  have k3 : mK M3 0 = 0 := by rw [t4.k]; rfl
  have t5 := Gx.r0 t4 9 (some 7)
  have t6 := Gx.nw (k := 20) (m := 12) t5 (by omega) (LC_a (by decide) (by decide))
  have t7 := Gx.r0 t6 11 (some 10)
  simp only [f_kG, psh, Nat.reduceAdd]
  refine G_w (pf0_ok X) LK_1 (fun i => false) 40 _ _ _ _ ?_
  simp only [f_0, f_s, f_iconst, f_bipush, f_sipush, f_ldc, f_ldc_w, f_ldc2_w, f_ldI, f_ldL, f_ldA, f_iload, f_iload_n, f_lload, f_lload_n, f_aload, f_aload_n, f_istore, f_istore_n, f_lstore, f_lstore_n, f_astore, f_astore_n, f_iinc, f_icI, f_iadd, f_isub, f_imul, f_idiv, f_irem, f_iand, f_ior, f_ixor, f_ishl, f_ishr, f_iushr, f_i2l, f_i2b, f_i2s, f_ladd, f_lmul, f_lcmp, f_dupI, f_dupR, f_dup2, f_pop, f_goto, f_if, f_icmp, f_tab, f_ts0, f_ts1, f_getI, f_getZ, f_getR, f_putI, f_putR, f_gets, f_iald, f_bald, f_aald, f_iast, f_bast, f_aast, f_alen, f_new, f_newa, f_anew, f_virt, f_stat0, f_stat1, f_spec0, f_spec1, f_spec9, f_copy, f_max, f_min, f_cV1, f_cV0, f_cS1, f_cS0, f_iret, f_lret, f_vret, f_kG, pf0, cIg, inR, lget, lset, lset2, clr, entL, cnd, psh, catS, tsw, List.take_succ_cons, List.take_zero, List.drop_succ_cons, List.drop_zero, List.reverse_cons, List.reverse_nil, List.nil_append, List.cons_append, List.length_cons, List.length_nil, List.replicate_succ, List.replicate_zero, Nat.reduceAdd, Nat.reduceSub, Nat.reduceLeDiff, Nat.reduceLT, Nat.reduceEqDiff, Nat.reduceMul, Nat.zero_add, Nat.add_zero, Nat.le_refl, Nat.zero_le, Int.reduceEq, Int.reduceToNat, Int.toNat_natCast, Int.reduceNeg, Int.reduceAdd, Int.reduceSub, Int.reduceMul, Int.reduceLT, Int.reduceLE, Int.reduceDiv, Int.reduceMod, Bool.false_eq_true, ↓reduceIte, true_and, and_true, implies_true, forall_const, true_or, or_true, or_false, false_or, not_true_eq_false, not_false_eq_true, false_implies, Prod.mk.injEq, Fin.val_zero, Fin.val_one, Fin.isValue, Fin.reduceFinMk, Fin.val_two, mR_uI, mK_uI, mN_uI, mI_uR, mK_uR, mN_uR, mR_uC, mK_uC, mN_uC, Option.some.injEq, Sum.inl.injEq, Sum.inr.injEq, decide_true, decide_false, Bool.or_false, Bool.false_or, Bool.or_true, Bool.true_or, Nat.reduceBEq, beq_self_eq_true, show tb 1 = tb_1 from rfl, tb_1, tb_1_0, tb_1_1, tb_1_2, tb_1_3, mZ_uN, mS_uN, mZ_uR, mS_uR, mK_uN, hz, z3, k3]
  (repeat' (first | with_reducible apply And.intro | with_reducible intro _)) <;> (try omega)
  refine ⟨(1, 360), ⟨by simp only []; omega, by simp only []; omega⟩, Ev_mono (e_newD X (uN (uR (uN (uR M3 0 9 (some 7)) 20 12) 0 11 (some 10)) 6 2) (by rw [mZ_uN, mZ_uR, mZ_uN, mZ_uR, z3]) (by rw [cl_uN, if_pos (by rw [mZ_uR, mZ_uN, mZ_uR, z3])])) (fun q M4 hr z4 q4 => ?_)⟩
  obtain ⟨rfl, hL4⟩ := hr
  simp only [mZ_uN, mS_uN, mZ_uR, mS_uR, z3, Nat.reduceAdd] at z4 q4
  have t8 := Gx.bl t7 (by omega) (by omega) hL4 z4
  have k4 : mK M4 0 = 0 := by rw [t8.k]; rfl
  have t9 := Gx.r0 t8 12 (some 11)
  have u0 : Cn (uN (uR M4 0 12 (some 11)) 37 4) 14 (Gx M 14 (upC (upC (upC (upC (upC (upC (upC (arr 0 15) 0 (some 1)) 1 (some 2)) 2 (some 3)) 7 (some 4)) 9 (some 7)) 11 (some 10)) 12 (some 11)) (arr 31 8) (arr 32 7) (arr 37 4)) := (t9.nN 37 4).cv (fun a => by
    by_cases a3 : a = 13
    · rw [if_pos a3, Gx, if_neg (by omega), if_neg (by omega), if_neg (by omega), if_pos a3]
    · rw [if_neg a3, Gx, Gx, if_neg a3, if_neg a3]
      by_cases a1 : a < 13
      · rw [if_pos a1, if_pos (show a < 14 by omega)]
      · rw [if_neg a1, if_neg (show ¬ a < 14 by omega)])
  have u1 := Gx.r0 u0 13 (some 13)
  rw [R0_eq, V0 (k0 := 31) (n := 8) (b := 14) (s := 2)] at u1
  have h9 := nx_texts X M hz 8 0 _ rfl u1 (by simp only [mS_uN, mS_uR]; omega)
  rw [hz] at h9
  simp only [f_kG, psh, Nat.reduceAdd]
  refine G_w (pf0_ok X) LK_1 (fun i => i == 40) 40 _ _ _ _ ?_
  simp only [f_0, f_s, f_iconst, f_bipush, f_sipush, f_ldc, f_ldc_w, f_ldc2_w, f_ldI, f_ldL, f_ldA, f_iload, f_iload_n, f_lload, f_lload_n, f_aload, f_aload_n, f_istore, f_istore_n, f_lstore, f_lstore_n, f_astore, f_astore_n, f_iinc, f_icI, f_iadd, f_isub, f_imul, f_idiv, f_irem, f_iand, f_ior, f_ixor, f_ishl, f_ishr, f_iushr, f_i2l, f_i2b, f_i2s, f_ladd, f_lmul, f_lcmp, f_dupI, f_dupR, f_dup2, f_pop, f_goto, f_if, f_icmp, f_tab, f_ts0, f_ts1, f_getI, f_getZ, f_getR, f_putI, f_putR, f_gets, f_iald, f_bald, f_aald, f_iast, f_bast, f_aast, f_alen, f_new, f_newa, f_anew, f_virt, f_stat0, f_stat1, f_spec0, f_spec1, f_spec9, f_copy, f_max, f_min, f_cV1, f_cV0, f_cS1, f_cS0, f_iret, f_lret, f_vret, f_kG, pf0, cIg, inR, lget, lset, lset2, clr, entL, cnd, psh, catS, tsw, List.take_succ_cons, List.take_zero, List.drop_succ_cons, List.drop_zero, List.reverse_cons, List.reverse_nil, List.nil_append, List.cons_append, List.length_cons, List.length_nil, List.replicate_succ, List.replicate_zero, Nat.reduceAdd, Nat.reduceSub, Nat.reduceLeDiff, Nat.reduceLT, Nat.reduceEqDiff, Nat.reduceMul, Nat.zero_add, Nat.add_zero, Nat.le_refl, Nat.zero_le, Int.reduceEq, Int.reduceToNat, Int.toNat_natCast, Int.reduceNeg, Int.reduceAdd, Int.reduceSub, Int.reduceMul, Int.reduceLT, Int.reduceLE, Int.reduceDiv, Int.reduceMod, Bool.false_eq_true, ↓reduceIte, true_and, and_true, implies_true, forall_const, true_or, or_true, or_false, false_or, not_true_eq_false, not_false_eq_true, false_implies, Prod.mk.injEq, Fin.val_zero, Fin.val_one, Fin.isValue, Fin.reduceFinMk, Fin.val_two, mR_uI, mK_uI, mN_uI, mI_uR, mK_uR, mN_uR, mR_uC, mK_uC, mN_uC, Option.some.injEq, Sum.inl.injEq, Sum.inr.injEq, decide_true, decide_false, Bool.or_false, Bool.false_or, Bool.or_true, Bool.true_or, Nat.reduceBEq, beq_self_eq_true, show tb 1 = tb_1 from rfl, tb_1, tb_1_0, tb_1_1, tb_1_2, tb_1_3, mZ_uN, mS_uN, mZ_uR, mS_uR, mK_uN, hz, z4, k4]
  (repeat' (first | with_reducible apply And.intro | with_reducible intro _)) <;> (try omega)
  all_goals exact h9
/-! the reference's object is made -/
def Gm (Mb : Mem) (n : Nat) (c0 : Cel) (a : Nat) : Cel := if a = 521 then c0 else if 521 < a ∧ a < n then LC a else cl Mb a
theorem Gm.r {Mb M : Mem} {n : Nat} {c0 : Cel} (h : Cn M n (Gm Mb n c0)) (k : Nat) (v : Option Nat) : Cn (uR M 521 k v) n (Gm Mb n (upC c0 k v)) := (h.nR 521 k v).cv (fun a => by
  by_cases a0 : a = 521
  · rw [if_pos a0, Gm, Gm, if_pos rfl, if_pos a0]
  · rw [if_neg a0, Gm, Gm, if_neg a0, if_neg a0])
theorem Gm.nw {Mb M : Mem} {n k m : Nat} {c0 : Cel} (h : Cn M n (Gm Mb n c0)) (hn : 521 < n) (hl : LC n = arr k m) : Cn (uN M k m) (n + 1) (Gm Mb (n + 1) c0) := (h.nN k m).cv (fun a => by
  by_cases a0 : a = n
  · rw [if_pos a0, Gm, if_neg (by omega), if_pos (by omega), a0, hl]
  · rw [if_neg a0, Gm, Gm]
    by_cases a1 : 521 < a ∧ a < n
    · rw [if_pos a1, if_pos (show 521 < a ∧ a < n + 1 by omega)]
    · rw [if_neg a1, if_neg (show ¬ (521 < a ∧ a < n + 1) by omega)])
theorem LC_b {a n : Nat} (h : SK a = 21) (hn : SN0 a = n) : LC a = arr 21 n := cel_ext h hn (fun k => SRR_a (Or.inr (Or.inl h)) k) (fun j => SI_0 (by omega) (by omega) j)
theorem LC_521 : LC 521 = upC (upC (upC (upC (upC (upC (upC (upC (upC (upC (upC (upC (upC (upC (arr 8 25) 1 (some 522)) 2 (some 523)) 3 (some 524)) 4 (some 525)) 5 (some 526)) 14 (some 527)) 15 (some 528)) 16 (some 529)) 18 (some 530)) 19 (some 531)) 20 (some 532)) 21 (some 533)) 22 (some 534)) 23 (some 535) := cel_ext rfl rfl (fun k => by
  match k with
  | 0 => rfl
  | 1 => rfl
  | 2 => rfl
  | 3 => rfl
  | 4 => rfl
  | 5 => rfl
  | 6 => rfl
  | 7 => rfl
  | 8 => rfl
  | 9 => rfl
  | 10 => rfl
  | 11 => rfl
  | 12 => rfl
  | 13 => rfl
  | 14 => rfl
  | 15 => rfl
  | 16 => rfl
  | 17 => rfl
  | 18 => rfl
  | 19 => rfl
  | 20 => rfl
  | 21 => rfl
  | 22 => rfl
  | 23 => rfl
  | 24 => rfl
  | n + 25 => rfl) (fun j => SI_0 (a := 521) (by decide) (by decide) j)
set_option maxRecDepth 100000 in
set_option maxHeartbeats 4000000 in
theorem e_newm (X : CX) (M : Mem) (hz : mZ M = 522) (hc : cl M 521 = arr 8 25) : Ev X y_m_init (14, 5140) [aR (some 521)] M (fun r M' => r = none ∧ Laid M M' 521 536) := by
  have big : 900000 < BIG := Nat.le_of_ble_eq_true rfl
  have k0 : mK M 521 = 8 := congrArg (fun c : Cel => c.1) hc
  have s0 : Cn M 522 (Gm M 522 (arr 8 25)) := (Cn.st hz).cv (fun a => by
    rw [Gm]
    by_cases a0 : a = 521
    · rw [if_pos a0, a0, hc]
    · rw [if_neg a0, if_neg (by omega)])
  have t0 := Gm.nw (k := 20) (m := 3960) s0 (by omega) (LC_a (by decide) (by decide))
  have s1 := Gm.r t0 1 (some 522)
  have t1 := Gm.nw (k := 20) (m := 132) s1 (by omega) (LC_a (by decide) (by decide))
  have s2 := Gm.r t1 2 (some 523)
  have t2 := Gm.nw (k := 20) (m := 8) s2 (by omega) (LC_a (by decide) (by decide))
  have s3 := Gm.r t2 3 (some 524)
  have t3 := Gm.nw (k := 20) (m := 240) s3 (by omega) (LC_a (by decide) (by decide))
  have s4 := Gm.r t3 4 (some 525)
  have t4 := Gm.nw (k := 20) (m := 8) s4 (by omega) (LC_a (by decide) (by decide))
  have s5 := Gm.r t4 5 (some 526)
  have t5 := Gm.nw (k := 20) (m := 25) s5 (by omega) (LC_a (by decide) (by decide))
  have s6 := Gm.r t5 14 (some 527)
  have t6 := Gm.nw (k := 20) (m := 30) s6 (by omega) (LC_a (by decide) (by decide))
  have s7 := Gm.r t6 15 (some 528)
  have t7 := Gm.nw (k := 20) (m := 25) s7 (by omega) (LC_a (by decide) (by decide))
  have s8 := Gm.r t7 16 (some 529)
  have t8 := Gm.nw (k := 20) (m := 400) s8 (by omega) (LC_a (by decide) (by decide))
  have s9 := Gm.r t8 18 (some 530)
  have t9 := Gm.nw (k := 21) (m := 4) s9 (by omega) (LC_b (by decide) (by decide))
  have s10 := Gm.r t9 19 (some 531)
  have t10 := Gm.nw (k := 20) (m := 4) s10 (by omega) (LC_a (by decide) (by decide))
  have s11 := Gm.r t10 20 (some 532)
  have t11 := Gm.nw (k := 20) (m := 4) s11 (by omega) (LC_a (by decide) (by decide))
  have s12 := Gm.r t11 21 (some 533)
  have t12 := Gm.nw (k := 20) (m := 240) s12 (by omega) (LC_a (by decide) (by decide))
  have s13 := Gm.r t12 22 (some 534)
  have t13 := Gm.nw (k := 20) (m := 60) s13 (by omega) (LC_a (by decide) (by decide))
  have s14 := Gm.r t13 23 (some 535)
  have c9 := s14.nS (mS M + 5140)
  have hL : Laid M (uS (uR (uN (uR (uN (uR (uN (uR (uN (uR (uN (uR (uN (uR (uN (uR (uN (uR (uN (uR (uN (uR (uN (uR (uN (uR (uN (uR (uN M 20 3960) 521 1 (some 522)) 20 132) 521 2 (some 523)) 20 8) 521 3 (some 524)) 20 240) 521 4 (some 525)) 20 8) 521 5 (some 526)) 20 25) 521 14 (some 527)) 20 30) 521 15 (some 528)) 20 25) 521 16 (some 529)) 20 400) 521 18 (some 530)) 21 4) 521 19 (some 531)) 20 4) 521 20 (some 532)) 20 4) 521 21 (some 533)) 20 240) 521 22 (some 534)) 20 60) 521 23 (some 535)) (mS M + 5140)) 521 536 := by
    refine ⟨fun a h1 h2 => ?_, fun a h => ?_⟩
    · rw [c9.e a, Gm]
      by_cases a0 : a = 521
      · rw [if_pos a0, a0, LC_521]
      · rw [if_neg a0, if_pos (by omega)]
    · rw [c9.e a, Gm, if_neg (by omega), if_neg (by omega)]
  refine Ev_of mcd_106 mok_106 (by decide) rfl (Nat.le_of_ble_eq_true rfl) ?_
  rw [show yl 106 = 1 from rfl]
  refine G_w (pf0_ok X) LK_106 (fun i => false) 80 _ _ _ _ ?_
  simp only [f_0, f_s, f_iconst, f_bipush, f_sipush, f_ldc, f_ldc_w, f_ldc2_w, f_ldI, f_ldL, f_ldA, f_iload, f_iload_n, f_lload, f_lload_n, f_aload, f_aload_n, f_istore, f_istore_n, f_lstore, f_lstore_n, f_astore, f_astore_n, f_iinc, f_icI, f_iadd, f_isub, f_imul, f_idiv, f_irem, f_iand, f_ior, f_ixor, f_ishl, f_ishr, f_iushr, f_i2l, f_i2b, f_i2s, f_ladd, f_lmul, f_lcmp, f_dupI, f_dupR, f_dup2, f_pop, f_goto, f_if, f_icmp, f_tab, f_ts0, f_ts1, f_getI, f_getZ, f_getR, f_putI, f_putR, f_gets, f_iald, f_bald, f_aald, f_iast, f_bast, f_aast, f_alen, f_new, f_newa, f_anew, f_virt, f_stat0, f_stat1, f_spec0, f_spec1, f_spec9, f_copy, f_max, f_min, f_cV1, f_cV0, f_cS1, f_cS0, f_iret, f_lret, f_vret, f_kG, pf0, cIg, inR, lget, lset, lset2, clr, entL, cnd, psh, catS, tsw, List.take_succ_cons, List.take_zero, List.drop_succ_cons, List.drop_zero, List.reverse_cons, List.reverse_nil, List.nil_append, List.cons_append, List.length_cons, List.length_nil, List.replicate_succ, List.replicate_zero, Nat.reduceAdd, Nat.reduceSub, Nat.reduceLeDiff, Nat.reduceLT, Nat.reduceEqDiff, Nat.reduceMul, Nat.zero_add, Nat.add_zero, Nat.le_refl, Nat.zero_le, Int.reduceEq, Int.reduceToNat, Int.toNat_natCast, Int.reduceNeg, Int.reduceAdd, Int.reduceSub, Int.reduceMul, Int.reduceLT, Int.reduceLE, Int.reduceDiv, Int.reduceMod, Bool.false_eq_true, ↓reduceIte, true_and, and_true, implies_true, forall_const, true_or, or_true, or_false, false_or, not_true_eq_false, not_false_eq_true, false_implies, Prod.mk.injEq, Fin.val_zero, Fin.val_one, Fin.isValue, Fin.reduceFinMk, Fin.val_two, mR_uI, mK_uI, mN_uI, mI_uR, mK_uR, mN_uR, mR_uC, mK_uC, mN_uC, Option.some.injEq, Sum.inl.injEq, Sum.inr.injEq, decide_true, decide_false, Bool.or_false, Bool.false_or, Bool.or_true, Bool.true_or, Nat.reduceBEq, beq_self_eq_true, show tb 106 = tb_106 from rfl, tb_106, tb_106_0, tb_106_1, mZ_uN, mS_uN, mZ_uR, mS_uR, mK_uN, hz, k0]
  (repeat' (first | with_reducible apply And.intro | with_reducible intro _)) <;> (try omega)
  all_goals first | exact hL | rfl
/-! what holds between the law's calls -/
theorem MI.xm {M M' : Mem} {s : St} (h : MI M s) (hx : XM M M') : MI M' s := by
  have big := big_gt
  have e521 : ∀ k, mI M' 521 k = mI M 521 k := fun k => hx.2.2.2 521 k (by omega)
  have e522 : ∀ k, mI M' 522 k = mI M 522 k := fun k => hx.2.2.2 522 k (by omega)
  have e523 : ∀ k, mI M' 523 k = mI M 523 k := fun k => hx.2.2.2 523 k (by omega)
  have e524 : ∀ k, mI M' 524 k = mI M 524 k := fun k => hx.2.2.2 524 k (by omega)
  have e525 : ∀ k, mI M' 525 k = mI M 525 k := fun k => hx.2.2.2 525 k (by omega)
  have e526 : ∀ k, mI M' 526 k = mI M 526 k := fun k => hx.2.2.2 526 k (by omega)
  have e527 : ∀ k, mI M' 527 k = mI M 527 k := fun k => hx.2.2.2 527 k (by omega)
  have e529 : ∀ k, mI M' 529 k = mI M 529 k := fun k => hx.2.2.2 529 k (by omega)
  have e531 : ∀ k, mI M' 531 k = mI M 531 k := fun k => hx.2.2.2 531 k (by omega)
  have e532 : ∀ k, mI M' 532 k = mI M 532 k := fun k => hx.2.2.2 532 k (by omega)
  have e533 : ∀ k, mI M' 533 k = mI M 533 k := fun k => hx.2.2.2 533 k (by omega)
  have e534 : ∀ k, mI M' 534 k = mI M 534 k := fun k => hx.2.2.2 534 k (by omega)
  obtain ⟨h1, h2, h3, h4, h5, h6⟩ := h
  have hT : ∀ p L, TP M p L → TP M' p L := fun p L h => ⟨(e523 p).trans h.1, h.2.1, fun j t ht => (e522 _).trans (h.2.2 j t ht)⟩
  refine ⟨Smr.shp hx h1 (fun a ha => by omega) (fun a h => h), ?_, ?_, ?_, ?_, ?_⟩
  · unfold MX TB at h2 ⊢
    simp only [e524, e525]
    exact h2
  · rw [e521]; exact h3
  · intro h7
    rw [e521] at h7
    obtain ⟨k1, k2, k3, k4, k5, k6, k7, k8⟩ := h4 h7
    refine ⟨(e521 _).trans k1, (e521 _).trans k2, fun t ht => (e526 t).trans (k3 t ht), fun t ht => hT _ _ (k4 t ht), (e521 _).trans k5, (e521 _).trans k6, ⟨⟨(e521 _).trans k7.1.1, k7.1.2.1, fun j b hb => hT _ _ (k7.1.2.2 j b hb)⟩, fun j b hb => (e529 j).trans (k7.2.1 j b hb), fun j b hb => (e527 j).trans (k7.2.2 j b hb)⟩, k8⟩
  · intro i hi
    have h9 := h5 i hi
    unfold SHM at h9 ⊢
    simp only [e531, e532, e533, e534]
    exact h9
  · rw [e521]; exact h6
theorem XI.mm {M M' : Mem} {s : St} (h : XI M s) (hm : MM M M') : XI M' s := h.sm (Same.smr hm _) (fun a ha => by have := big_gt; omega)
/-- class and reference hold the same; the script -/
def LI (M : Mem) (L : Nat) (f : Nat → Int) (s : St) : Prop := XI M s ∧ MI M s ∧ mK M (BIG + 3) = 25 ∧ mN M (BIG + 3) = L ∧ ∀ k, mI M (BIG + 3) k = f k
theorem XM.sc {M M' : Mem} {L : Nat} {f : Nat → Int} (hx : XM M M') (h : mK M (BIG + 3) = 25 ∧ mN M (BIG + 3) = L ∧ ∀ k, mI M (BIG + 3) k = f k) : mK M' (BIG + 3) = 25 ∧ mN M' (BIG + 3) = L ∧ ∀ k, mI M' (BIG + 3) k = f k := by
  have big := big_gt
  exact ⟨(hx.1 _).trans h.1, (hx.2.1 _).trans h.2.1, fun k => (hx.2.2.2 _ _ (by omega)).trans (h.2.2 k)⟩
theorem MM.sc {M M' : Mem} {L : Nat} {f : Nat → Int} (hx : MM M M') (h : mK M (BIG + 3) = 25 ∧ mN M (BIG + 3) = L ∧ ∀ k, mI M (BIG + 3) k = f k) : mK M' (BIG + 3) = 25 ∧ mN M' (BIG + 3) = L ∧ ∀ k, mI M' (BIG + 3) k = f k := by
  have big := big_gt
  exact ⟨(hx.1 _).trans h.1, (hx.2.1 _).trans h.2.1, fun k => (hx.2.2.2 _ _ (by omega)).trans (h.2.2 k)⟩
