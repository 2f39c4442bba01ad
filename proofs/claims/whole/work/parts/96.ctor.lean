/-! what the constructors lay -/
abbrev Cel : Type := Nat × Nat × (Nat → Option Nat) × (Nat → Int)
def cl (M : Mem) (a : Nat) : Cel := (mK M a, mN M a, mR M a, mI M a)
def arr (k n : Nat) : Cel := (k, n, fun _ => none, fun _ => 0)
def upC (c : Cel) (k : Nat) (v : Option Nat) : Cel := (c.1, c.2.1, fun j => if j = k then v else c.2.2.1 j, c.2.2.2)
def upJ (c : Cel) (k : Nat) (v : Int) : Cel := (c.1, c.2.1, c.2.2.1, fun j => if j = k then v else c.2.2.2 j)
theorem cel_ext {a b : Cel} (h1 : a.1 = b.1) (h2 : a.2.1 = b.2.1) (h3 : ∀ k, a.2.2.1 k = b.2.2.1 k) (h4 : ∀ k, a.2.2.2 k = b.2.2.2 k) : a = b := Prod.ext h1 (Prod.ext h2 (Prod.ext (funext h3) (funext h4)))
theorem cl_uN (M : Mem) (k n a : Nat) : cl (uN M k n) a = if a = mZ M then arr k n else cl M a := by
  by_cases h : a = mZ M
  · rw [if_pos h]
    exact cel_ext ((mK_uN M k n a).trans (if_pos h)) ((mN_uN M k n a).trans (if_pos h)) (fun j => (mR_uN M k n a j).trans (if_pos h)) (fun j => (mI_uN M k n a j).trans (if_pos h))
  · rw [if_neg h]
    exact cel_ext ((mK_uN M k n a).trans (if_neg h)) ((mN_uN M k n a).trans (if_neg h)) (fun j => (mR_uN M k n a j).trans (if_neg h)) (fun j => (mI_uN M k n a j).trans (if_neg h))
theorem cl_uR (M : Mem) (b k : Nat) (v : Option Nat) (a : Nat) : cl (uR M b k v) a = if a = b then upC (cl M b) k v else cl M a := by
  by_cases h : a = b
  · rw [if_pos h, h]
    refine cel_ext rfl rfl (fun j => ?_) (fun j => rfl)
    show mR (uR M b k v) b j = if j = k then v else mR M b j
    rw [mR_uR]
    by_cases hj : j = k
    · rw [if_pos ⟨rfl, hj⟩, if_pos hj]
    · rw [if_neg (fun h9 => hj h9.2), if_neg hj]
  · rw [if_neg h]
    refine cel_ext rfl rfl (fun j => ?_) (fun j => rfl)
    show mR (uR M b k v) a j = mR M a j
    rw [mR_uR, if_neg (fun h9 => h h9.1)]
theorem cl_uI (M : Mem) (b k : Nat) (v : Int) (a : Nat) : cl (uI M b k v) a = if a = b then upJ (cl M b) k v else cl M a := by
  by_cases h : a = b
  · rw [if_pos h, h]
    refine cel_ext rfl rfl (fun j => rfl) (fun j => ?_)
    show mI (uI M b k v) b j = if j = k then v else mI M b j
    rw [mI_uI]
    by_cases hj : j = k
    · rw [if_pos ⟨rfl, hj⟩, if_pos hj]
    · rw [if_neg (fun h9 => hj h9.2), if_neg hj]
  · rw [if_neg h]
    refine cel_ext rfl rfl (fun j => rfl) (fun j => ?_)
    show mI (uI M b k v) a j = mI M a j
    rw [mI_uI, if_neg (fun h9 => h h9.1)]
theorem mZ_uR (M : Mem) (a k : Nat) (v : Option Nat) : mZ (uR M a k v) = mZ M := (rfl)
theorem mS_uR (M : Mem) (a k : Nat) (v : Option Nat) : mS (uR M a k v) = mS M := (rfl)
theorem mZ_uI (M : Mem) (a k : Nat) (v : Int) : mZ (uI M a k v) = mZ M := (rfl)
theorem mS_uI (M : Mem) (a k : Nat) (v : Int) : mS (uI M a k v) = mS M := (rfl)
/-- a memory by its cells -/
def Cn (M : Mem) (n : Nat) (f : Nat → Cel) : Prop := mZ M = n ∧ ∀ a, cl M a = f a
theorem Cn.nN {M : Mem} {n : Nat} {f : Nat → Cel} (h : Cn M n f) (k m : Nat) : Cn (uN M k m) (n + 1) (fun a => if a = n then arr k m else f a) := ⟨by rw [mZ_uN, h.1], fun a => by rw [cl_uN, h.1, h.2]⟩
theorem Cn.nR {M : Mem} {n : Nat} {f : Nat → Cel} (h : Cn M n f) (b k : Nat) (v : Option Nat) : Cn (uR M b k v) n (fun a => if a = b then upC (f b) k v else f a) := ⟨h.1, fun a => by rw [cl_uR, h.2, h.2]⟩
theorem Cn.nI {M : Mem} {n : Nat} {f : Nat → Cel} (h : Cn M n f) (b k : Nat) (v : Int) : Cn (uI M b k v) n (fun a => if a = b then upJ (f b) k v else f a) := ⟨h.1, fun a => by rw [cl_uI, h.2, h.2]⟩
theorem Cn.nS {M : Mem} {n : Nat} {f : Nat → Cel} (h : Cn M n f) (s : Nat) : Cn (uS M s) n f := ⟨h.1, fun a => h.2 a⟩
theorem Cn.e {M : Mem} {n : Nat} {f : Nat → Cel} (h : Cn M n f) (a : Nat) : cl M a = f a := h.2 a
theorem Cn.k {M : Mem} {n : Nat} {f : Nat → Cel} (h : Cn M n f) (a : Nat) : mK M a = (f a).1 := congrArg (fun c : Cel => c.1) (h.2 a)
theorem Cn.l {M : Mem} {n : Nat} {f : Nat → Cel} (h : Cn M n f) (a : Nat) : mN M a = (f a).2.1 := congrArg (fun c : Cel => c.2.1) (h.2 a)
theorem Cn.r {M : Mem} {n : Nat} {f : Nat → Cel} (h : Cn M n f) (a k : Nat) : mR M a k = (f a).2.2.1 k := congrArg (fun c : Cel => c.2.2.1 k) (h.2 a)
theorem Cn.i {M : Mem} {n : Nat} {f : Nat → Cel} (h : Cn M n f) (a k : Nat) : mI M a k = (f a).2.2.2 k := congrArg (fun c : Cel => c.2.2.2 k) (h.2 a)
/-! the tables of all cells, the three rows and all ints too -/
def SRR (a k : Nat) : Option Nat := if a = 60 then (if k < 100 then some (61 + 3 * k) else none) else if a = 363 then (if k < 24 then some (364 + 3 * k) else none) else if a = 443 then (if k < 24 then some (444 + 3 * k) else none) else SR a k
def SI (a j : Nat) : Int := if SK a = 1 ∧ j = 2 then -1 else if SK a = 7 ∧ j = 1 then -1 else 0
def LC (a : Nat) : Cel := (SK a, SN0 a, SRR a, SI a)
theorem SRR_o {a : Nat} (h : SK a = 1 ∨ SK a = 7 ∨ SK a = 4 ∨ SK a = 6) (k : Nat) : SRR a k = if k = 0 then some (a + 1) else none := by
  have n0 : a ≠ 0 := fun e => by subst e; revert h; decide
  have n1 : a ≠ 1 := fun e => by subst e; revert h; decide
  have n2 : a ≠ 2 := fun e => by subst e; revert h; decide
  have n3 : a ≠ 13 := fun e => by subst e; revert h; decide
  have n4 : a ≠ 521 := fun e => by subst e; revert h; decide
  have n5 : a ≠ 60 := fun e => by subst e; revert h; decide
  have n6 : a ≠ 363 := fun e => by subst e; revert h; decide
  have n7 : a ≠ 443 := fun e => by subst e; revert h; decide
  unfold SRR
  rw [if_neg n5, if_neg n6, if_neg n7]
  unfold SR
  rw [if_neg n0, if_neg n1, if_neg n2, if_neg n3, if_neg n4, if_neg (by omega), if_neg (by omega), if_pos (by omega)]
theorem SRR_p {a : Nat} (h : SK a = 2) (k : Nat) : SRR a k = if k = 0 then some (a + 1) else if k = 1 then some (a + 2) else none := by
  have n0 : a ≠ 0 := fun e => by subst e; revert h; decide
  have n1 : a ≠ 1 := fun e => by subst e; revert h; decide
  have n2 : a ≠ 2 := fun e => by subst e; revert h; decide
  have n3 : a ≠ 13 := fun e => by subst e; revert h; decide
  have n4 : a ≠ 521 := fun e => by subst e; revert h; decide
  have n5 : a ≠ 60 := fun e => by subst e; revert h; decide
  have n6 : a ≠ 363 := fun e => by subst e; revert h; decide
  have n7 : a ≠ 443 := fun e => by subst e; revert h; decide
  unfold SRR
  rw [if_neg n5, if_neg n6, if_neg n7]
  unfold SR
  rw [if_neg n0, if_neg n1, if_neg n2, if_neg n3, if_neg n4, if_pos h]
theorem SRR_c {a : Nat} (h : SK a = 5) (k : Nat) : SRR a k = if k = 0 then some (a + 1) else if k = 3 then some 59 else if k = 5 then some (a + 75) else if k = 6 then some (a + 78) else if k = 7 then some (a + 79) else none := by
  have n0 : a ≠ 0 := fun e => by subst e; revert h; decide
  have n1 : a ≠ 1 := fun e => by subst e; revert h; decide
  have n2 : a ≠ 2 := fun e => by subst e; revert h; decide
  have n3 : a ≠ 13 := fun e => by subst e; revert h; decide
  have n4 : a ≠ 521 := fun e => by subst e; revert h; decide
  have n5 : a ≠ 60 := fun e => by subst e; revert h; decide
  have n6 : a ≠ 363 := fun e => by subst e; revert h; decide
  have n7 : a ≠ 443 := fun e => by subst e; revert h; decide
  unfold SRR
  rw [if_neg n5, if_neg n6, if_neg n7]
  unfold SR
  rw [if_neg n0, if_neg n1, if_neg n2, if_neg n3, if_neg n4, if_neg (by omega), if_pos h]
theorem SRR_a {a : Nat} (h : SK a = 20 ∨ SK a = 21 ∨ SK a = 3) (k : Nat) : SRR a k = none := by
  have n0 : a ≠ 0 := fun e => by subst e; revert h; decide
  have n1 : a ≠ 1 := fun e => by subst e; revert h; decide
  have n2 : a ≠ 2 := fun e => by subst e; revert h; decide
  have n3 : a ≠ 13 := fun e => by subst e; revert h; decide
  have n4 : a ≠ 521 := fun e => by subst e; revert h; decide
  have n5 : a ≠ 60 := fun e => by subst e; revert h; decide
  have n6 : a ≠ 363 := fun e => by subst e; revert h; decide
  have n7 : a ≠ 443 := fun e => by subst e; revert h; decide
  unfold SRR
  rw [if_neg n5, if_neg n6, if_neg n7]
  unfold SR
  rw [if_neg n0, if_neg n1, if_neg n2, if_neg n3, if_neg n4, if_neg (by omega), if_neg (by omega), if_neg (by omega)]
theorem SI_0 {a : Nat} (h1 : SK a ≠ 1) (h2 : SK a ≠ 7) (j : Nat) : SI a j = 0 := by
  unfold SI
  rw [if_neg (fun h => h1 h.1), if_neg (fun h => h2 h.1)]
theorem LC_a {a n : Nat} (h : SK a = 20) (hn : SN0 a = n) : LC a = arr 20 n := cel_ext h hn (fun k => SRR_a (Or.inl h) k) (fun j => SI_0 (by omega) (by omega) j)
theorem poly_n : (List.range 536).all (fun p => decide (SK p ≠ 2) || decide (SN0 p = 5)) = true := by decide +kernel
theorem LC_p {p : Nat} (h : SK p = 2) : LC p = (2, 5, fun k => if k = 0 then some (p + 1) else if k = 1 then some (p + 2) else none, fun _ => 0) ∧ LC (p + 1) = arr 20 30 ∧ LC (p + 2) = arr 20 30 := by
  obtain ⟨a1, a2, a3, a4, a5, a6, a7, a8, a9, a10⟩ := poly_f h
  have hb : p + 2 < BIG := by have := big_gt; omega
  have hn : SN0 p = 5 := by
    have h1 := List.all_eq_true.mp poly_n p (List.mem_range.mpr (by omega))
    simp only [Bool.or_eq_true, decide_eq_true_eq] at h1
    exact h1.resolve_left (fun h9 => h9 h)
  have e3 : SN0 (p + 1) = 30 := by rw [← a3]; unfold SN; rw [if_pos (by omega)]
  have e4 : SN0 (p + 2) = 30 := by rw [← a4]; unfold SN; rw [if_pos (by omega)]
  exact ⟨cel_ext h hn (fun k => SRR_p h k) (fun j => SI_0 (by omega) (by omega) j), LC_a a1 e3, LC_a a2 e4⟩
/-- what is laid from lo to hi; the rest stays -/
def Laid (M M' : Mem) (lo hi : Nat) : Prop := (∀ a, lo ≤ a → a < hi → cl M' a = LC a) ∧ ∀ a, ¬ (lo ≤ a ∧ a < hi) → cl M' a = cl M a
theorem Cn.st {M : Mem} {n : Nat} (h : mZ M = n) : Cn M n (cl M) := ⟨h, fun _ => rfl⟩
set_option maxRecDepth 100000 in
set_option maxHeartbeats 4000000 in
theorem e_newP (X : CX) (M : Mem) (p : Nat) (hp : p < 1000) (hz : mZ M = p + 1) (hk : SK p = 2) (hc : cl M p = arr 2 5) : Ev X y_Polynomial_init (2, 60) [aR (some p)] M (fun r M' => r = none ∧ Laid M M' p (p + 3)) := by
  have big : 900000 < BIG := Nat.le_of_ble_eq_true rfl
  have c0 := Cn.st hz
  have c1 := c0.nN 20 30
  have c2 := c1.nR p 0 (some (p + 1))
  have c3 := c2.nN 20 30
  have c4 := (c3.nR p 1 (some (p + 1 + 1))).nS (mS M + 60)
  have k1 : mK (uN M 20 30) p = 2 := by rw [c1.k, if_neg (by omega), hc]; rfl
  have k2 : mK (uN (uR (uN M 20 30) p 0 (some (p + 1))) 20 30) p = 2 := by rw [c3.k, if_neg (by omega), if_pos rfl]; simp only [if_neg (show ¬ p = p + 1 by omega), hc]; rfl
  have hL : Laid M (uS (uR (uN (uR (uN M 20 30) p 0 (some (p + 1))) 20 30) p 1 (some (p + 1 + 1))) (mS M + 60)) p (p + 3) := by
    obtain ⟨l1, l2, l3⟩ := LC_p hk
    refine ⟨fun a h1 h2 => ?_, fun a h => ?_⟩
    · rw [c4.e a]
      rcases (show a = p ∨ a = p + 1 ∨ a = p + 2 by omega) with rfl | rfl | rfl
      · rw [if_pos rfl, if_neg (by omega), if_pos rfl, if_neg (by omega), hc, l1]
        refine cel_ext rfl rfl (fun j => ?_) (fun j => rfl)
        show (if j = 1 then some (a + 1 + 1) else if j = 0 then some (a + 1) else none) = if j = 0 then some (a + 1) else if j = 1 then some (a + 2) else none
        by_cases j1 : j = 1
        · rw [if_pos j1, if_neg (by omega), if_pos j1]
        · rw [if_neg j1, if_neg j1]
      · rw [if_neg (by omega), if_neg (by omega), if_neg (by omega), if_pos rfl, l2]
      · rw [if_neg (by omega), if_pos (by omega), l3]
    · rw [c4.e a, if_neg (by omega), if_neg (by omega), if_neg (by omega), if_neg (by omega)]
  refine Ev_of mcd_3 mok_3 (by decide) rfl (Nat.le_of_ble_eq_true rfl) ?_
  rw [show yl 3 = 1 from rfl]
  refine G_w (pf0_ok X) LK_3 (fun i => false) 20 _ _ _ _ ?_
  simp only [f_0, f_s, f_iconst, f_bipush, f_sipush, f_ldc, f_ldc_w, f_ldc2_w, f_ldI, f_ldL, f_ldA, f_iload, f_iload_n, f_lload, f_lload_n, f_aload, f_aload_n, f_istore, f_istore_n, f_lstore, f_lstore_n, f_astore, f_astore_n, f_iinc, f_icI, f_iadd, f_isub, f_imul, f_idiv, f_irem, f_iand, f_ior, f_ixor, f_ishl, f_ishr, f_iushr, f_i2l, f_i2b, f_i2s, f_ladd, f_lmul, f_lcmp, f_dupI, f_dupR, f_dup2, f_pop, f_goto, f_if, f_icmp, f_tab, f_ts0, f_ts1, f_getI, f_getZ, f_getR, f_putI, f_putR, f_gets, f_iald, f_bald, f_aald, f_iast, f_bast, f_aast, f_alen, f_new, f_newa, f_anew, f_virt, f_stat0, f_stat1, f_spec0, f_spec1, f_spec9, f_copy, f_max, f_min, f_cV1, f_cV0, f_cS1, f_cS0, f_iret, f_lret, f_vret, f_kG, pf0, cIg, inR, lget, lset, lset2, clr, entL, cnd, psh, catS, tsw, List.take_succ_cons, List.take_zero, List.drop_succ_cons, List.drop_zero, List.reverse_cons, List.reverse_nil, List.nil_append, List.cons_append, List.length_cons, List.length_nil, List.replicate_succ, List.replicate_zero, Nat.reduceAdd, Nat.reduceSub, Nat.reduceLeDiff, Nat.reduceLT, Nat.reduceEqDiff, Nat.reduceMul, Nat.zero_add, Nat.add_zero, Nat.le_refl, Nat.zero_le, Int.reduceEq, Int.reduceToNat, Int.toNat_natCast, Int.reduceNeg, Int.reduceAdd, Int.reduceSub, Int.reduceMul, Int.reduceLT, Int.reduceLE, Int.reduceDiv, Int.reduceMod, Bool.false_eq_true, ↓reduceIte, true_and, and_true, implies_true, forall_const, true_or, or_true, or_false, false_or, not_true_eq_false, not_false_eq_true, false_implies, Prod.mk.injEq, Fin.val_zero, Fin.val_one, Fin.isValue, Fin.reduceFinMk, Fin.val_two, mR_uI, mK_uI, mN_uI, mI_uR, mK_uR, mN_uR, mR_uC, mK_uC, mN_uC, Option.some.injEq, Sum.inl.injEq, Sum.inr.injEq, decide_true, decide_false, Bool.or_false, Bool.false_or, Bool.or_true, Bool.true_or, Nat.reduceBEq, beq_self_eq_true, show tb 3 = tb_3 from rfl, tb_3, tb_3_0, mZ_uN, mS_uN, mZ_uR, mS_uR, hz, k1, k2]
  (repeat' (first | with_reducible apply And.intro | with_reducible intro _)) <;> (try omega)
  all_goals first | exact hL | rfl
