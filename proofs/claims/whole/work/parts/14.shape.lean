/-! where the objects lie, once both are made: the class from 0 on, the reference at 521 -/
def SK (a : Nat) : Nat :=
  if a < 14 then [0, 31, 32, 3, 2, 20, 20, 2, 20, 20, 20, 6, 20, 37].getD a 99
  else if a < 30 then (if a % 2 = 0 then 1 else 20)
  else if a < 51 then (if a % 3 = 0 then 2 else 20)
  else if a < 59 then (if a % 2 = 1 then 7 else 20)
  else if a < 361 then (if a = 59 then 4 else if a = 60 then 32 else if a % 3 = 1 then 2 else 20)
  else if a < 441 then (if a = 361 then 5 else if a = 362 then 4 else if a = 363 then 32 else if a < 439 then (if a % 3 = 1 then 2 else 20) else 20)
  else if a < 521 then (if a = 441 then 5 else if a = 442 then 4 else if a = 443 then 32 else if a < 519 then (if a % 3 = 0 then 2 else 20) else 20)
  else if a < 536 then (if a = 521 then 8 else if a = 531 then 21 else 20)
  else if a < BIG then 99
  else if a < BIG + 4 then 25 else 99
def SN0 (a : Nat) : Nat :=
  if a < 14 then [15, 8, 7, 5, 5, 30, 30, 5, 30, 30, 12, 2, 360, 4].getD a 0
  else if a < 30 then (if a % 2 = 0 then 3 else if a = 29 then 3 else 30)
  else if a < 51 then (if a % 3 = 0 then 5 else 30)
  else if a < 59 then (if a % 2 = 1 then 3 else 60)
  else if a < 361 then (if a = 59 then 2 else if a = 60 then 100 else if a % 3 = 1 then 5 else 30)
  else if a < 441 then (if a = 361 then 8 else if a = 362 then 2 else if a = 363 then 24 else if a < 439 then (if a % 3 = 1 then 5 else 30) else 60)
  else if a < 521 then (if a = 441 then 8 else if a = 442 then 2 else if a = 443 then 24 else if a < 519 then (if a % 3 = 0 then 5 else 30) else 60)
  else [25, 3960, 132, 8, 240, 8, 25, 30, 25, 400, 4, 4, 4, 240, 60].getD (a - 521) 0
def SN (L : Nat) (a : Nat) : Nat := if a < BIG then SN0 a else if a < BIG + 4 then [3, 3, 5, L].getD (a - BIG) 0 else 0
/-- the references that never change -/
def SR (a k : Nat) : Option Nat :=
  if a = 0 then [some 1, some 2, some 3, none, none, some 361, some 441, some 4, none, some 7, none, some 10, some 11, some 13, none].getD k none
  else if a = 1 then (if k < 8 then some (14 + 2 * k) else none)
  else if a = 2 then (if k < 7 then some (30 + 3 * k) else none)
  else if a = 13 then (if k < 4 then some (51 + 2 * k) else none)
  else if a = 521 then [none, some 522, some 523, some 524, some 525, some 526, none, none, none, none, none, none, none, none, some 527, some 528, some 529, none, some 530, some 531, some 532, some 533, some 534, some 535, none].getD k none
  else if SK a = 2 then (if k = 0 then some (a + 1) else if k = 1 then some (a + 2) else none)
  else if SK a = 5 then (if k = 0 then some (a + 1) else if k = 3 then some 59 else if k = 5 then some (a + 75) else if k = 6 then some (a + 78) else if k = 7 then some (a + 79) else none)
  else if SK a = 1 ∨ SK a = 7 ∨ SK a = 4 ∨ SK a = 6 then (if k = 0 then some (a + 1) else none)
  else none
def dyn (a : Nat) : Prop := a = 60 ∨ a = 363 ∨ a = 443
/-- all that stays: kinds, lengths, references but those of the three rows -/
def Shp (M : Mem) : Prop := (∀ a, mK M a = SK a) ∧ (∃ L, ∀ a, mN M a = SN L a) ∧ (∀ a k, ¬ dyn a → mR M a k = SR a k) ∧ Ext M
theorem Shp.k {M : Mem} (h : Shp M) (a : Nat) : mK M a = SK a := h.1 a
theorem SN_lt {L L' a : Nat} (h : a < BIG) : SN L a = SN L' a := by
  unfold SN
  rw [if_pos h, if_pos h]
theorem Shp.n {M : Mem} (h : Shp M) {a : Nat} (ha : a < BIG) : mN M a = SN 0 a := by
  obtain ⟨L, hL⟩ := h.2.1
  rw [hL, SN_lt ha]
theorem Shp.r {M : Mem} (h : Shp M) {a : Nat} (ha : ¬ dyn a) (k : Nat) : mR M a k = SR a k := h.2.2.1 a k ha
theorem poly_b : (List.range 536).all (fun p => decide (SK p ≠ 2) || (decide (SK (p + 1) = 20) && (decide (SK (p + 2) = 20) && (decide (SN 0 (p + 1) = 30) && (decide (SN 0 (p + 2) = 30) && (decide (SR p 0 = some (p + 1)) && (decide (SR p 1 = some (p + 2)) && (decide (p ≠ 60) && (decide (p ≠ 363) && (decide (p ≠ 443) && decide (p + 2 < 521))))))))))) = true := by decide +kernel
theorem SK_big {a : Nat} (h : 536 ≤ a) : SK a = 99 ∨ SK a = 25 := by
  unfold SK
  rw [if_neg (by omega), if_neg (by omega), if_neg (by omega), if_neg (by omega), if_neg (by omega), if_neg (by omega), if_neg (by omega), if_neg (by omega)]
  split
  · exact Or.inl rfl
  · split
    · exact Or.inr rfl
    · exact Or.inl rfl
theorem poly_f {p : Nat} (h : SK p = 2) : SK (p + 1) = 20 ∧ SK (p + 2) = 20 ∧ SN 0 (p + 1) = 30 ∧ SN 0 (p + 2) = 30 ∧ SR p 0 = some (p + 1) ∧ SR p 1 = some (p + 2) ∧ p ≠ 60 ∧ p ≠ 363 ∧ p ≠ 443 ∧ p + 2 < 521 := by
  have hp : p < 536 := by
    by_cases h9 : p < 536
    · exact h9
    · rcases SK_big (a := p) (by omega) with h8 | h8 <;> omega
  have h1 := List.all_eq_true.mp poly_b p (List.mem_range.mpr hp)
  simp only [Bool.or_eq_true, Bool.and_eq_true, decide_eq_true_eq] at h1
  rcases h1 with h1 | h1
  · exact absurd h h1
  · exact h1
/-- a polynomial's cells -/
def PA (M : Mem) (p : Nat) : Prop := mK M p = 2 ∧ mK M (p + 1) = 20 ∧ mK M (p + 2) = 20 ∧ mN M (p + 1) = 30 ∧ mN M (p + 2) = 30 ∧ mR M p 0 = some (p + 1) ∧ mR M p 1 = some (p + 2)
theorem Shp.p {M : Mem} (h : Shp M) {p : Nat} (hp : SK p = 2) : PA M p := by
  obtain ⟨a1, a2, a3, a4, a5, a6, a7, a8, a9, a10⟩ := poly_f hp
  have hd : ¬ dyn p := by unfold dyn; omega
  exact ⟨(h.k p).trans hp, (h.k _).trans a1, (h.k _).trans a2, (h.n (show p + 1 < 1000000 by omega)).trans a3, (h.n (show p + 2 < 1000000 by omega)).trans a4, (h.r hd 0).trans a5, (h.r hd 1).trans a6⟩
/-- M' is M but for the ints of the cells that S names -/
def Same (M M' : Mem) (S : Nat → Prop) : Prop := (∀ a, mK M' a = mK M a) ∧ (∀ a, mN M' a = mN M a) ∧ (∀ a k, mR M' a k = mR M a k) ∧ ∀ a k, ¬ S a → mI M' a k = mI M a k
theorem Same.rf (M : Mem) (S : Nat → Prop) : Same M M S := ⟨fun _ => rfl, fun _ => rfl, fun _ _ => rfl, fun _ _ _ => rfl⟩
theorem Same.tr {M M1 M2 : Mem} {S : Nat → Prop} (h : Same M M1 S) (h2 : Same M1 M2 S) : Same M M2 S := ⟨fun a => (h2.1 a).trans (h.1 a), fun a => (h2.2.1 a).trans (h.2.1 a), fun a k => (h2.2.2.1 a k).trans (h.2.2.1 a k), fun a k hs => (h2.2.2.2 a k hs).trans (h.2.2.2 a k hs)⟩
theorem Same.w {M M1 : Mem} {S S' : Nat → Prop} (h : Same M M1 S) (hs : ∀ a, S a → S' a) : Same M M1 S' := ⟨h.1, h.2.1, h.2.2.1, fun a k hn => h.2.2.2 a k (fun h9 => hn (hs a h9))⟩
theorem Same.uI {M M1 : Mem} {S : Nat → Prop} (h : Same M M1 S) {a : Nat} (ha : S a) (k : Nat) (v : Int) : Same M (uI M1 a k v) S := ⟨h.1, h.2.1, h.2.2.1, fun b j hb => by rw [mI_uI, if_neg (c := b = a ∧ j = k) (fun h9 => hb (h9.1 ▸ ha))]; exact h.2.2.2 b j hb⟩
theorem Same.uC {M M1 : Mem} {S : Nat → Prop} (h : Same M M1 S) {b : Nat} (hb : S b) (a sp dp n : Nat) : Same M (uC M1 a sp b dp n) S := ⟨h.1, h.2.1, h.2.2.1, fun x j hx => by rw [mI_uC, if_neg (c := x = b ∧ dp ≤ j ∧ j < dp + n) (fun h9 => hx (h9.1 ▸ hb))]; exact h.2.2.2 x j hx⟩
theorem Same.shp {M M' : Mem} {S : Nat → Prop} (h : Same M M' S) (hS : Shp M) (hb : ∀ a, BIG ≤ a → ¬ S a) : Shp M' := by
  obtain ⟨h1, ⟨L, h2⟩, h3, h4⟩ := hS
  refine ⟨fun a => (h.1 a).trans (h1 a), ⟨L, fun a => (h.2.1 a).trans (h2 a)⟩, fun a k hd => (h.2.2.1 a k).trans (h3 a k hd), ?_⟩
  unfold Ext at h4 ⊢
  simp only [h.1, h.2.1]
  rw [h.2.2.2 BIG _ (hb _ (Nat.le_of_ble_eq_true rfl)), h.2.2.2 BIG _ (hb _ (Nat.le_of_ble_eq_true rfl)), h.2.2.2 BIG _ (hb _ (Nat.le_of_ble_eq_true rfl)), h.2.2.2 (BIG + 1) _ (hb _ (Nat.le_of_ble_eq_true rfl)), h.2.2.2 (BIG + 1) _ (hb _ (Nat.le_of_ble_eq_true rfl)), h.2.2.2 (BIG + 1) _ (hb _ (Nat.le_of_ble_eq_true rfl)), h.2.2.2 (BIG + 2) _ (hb _ (Nat.le_of_ble_eq_true rfl)), h.2.2.2 (BIG + 2) _ (hb _ (Nat.le_of_ble_eq_true rfl)), h.2.2.2 (BIG + 2) _ (hb _ (Nat.le_of_ble_eq_true rfl)), h.2.2.2 (BIG + 2) _ (hb _ (Nat.le_of_ble_eq_true rfl)), h.2.2.2 (BIG + 2) _ (hb _ (Nat.le_of_ble_eq_true rfl))]
  exact h4
theorem Same.pa {M M' : Mem} {S : Nat → Prop} (h : Same M M' S) {p : Nat} (hp : PA M p) : PA M' p := by
  unfold PA at hp ⊢
  simp only [h.1, h.2.1, h.2.2.1]
  exact hp
