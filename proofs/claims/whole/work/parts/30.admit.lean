/-! rows of members -/
theorem nd_ne {ps : List Nat} {i j a b : Nat} (h : ps.Nodup) (h1 : ps[i]? = some a) (h2 : ps[j]? = some b) (hn : i ≠ j) : a ≠ b := fun e => by
  subst e
  exact hn ((List.getElem?_inj (List.getElem?_eq_some_iff.mp h1).1 h).mp (h1.trans h2.symm))
theorem PB_app {M M' : Mem} {r cap t : Nat} {ps : List Nat} {pl : List Po} {L : Po} (h : PB M r cap ps pl) (ht : ps[pl.length]? = some t) (hl : mI M' r 1 = (pl.length : Int) + 1) (hL : PL M' t L) (hS : Same M M' (fun a => a = r ∨ T3 t a)) (hr : ∀ q ∈ ps, r ≠ q ∧ r ≠ q + 1 ∧ r ≠ q + 2) : PB M' r cap ps (pl ++ [L]) := by
  obtain ⟨⟨r1, r2, r3, r4, r5, r6, r7, r8⟩, b1, b2, b3⟩ := h
  have hlt := (List.getElem?_eq_some_iff.mp ht).1
  refine ⟨⟨(hS.1 _).trans r1, (hS.2.2.1 _ _).trans r2, (hS.1 _).trans r3, (hS.2.1 _).trans r4, r5, fun j q hq => (hS.2.2.1 _ _).trans (r6 j q hq), fun q hq => hS.pa (r7 q hq), r8⟩, by rw [hl, List.length_append]; rfl, by rw [List.length_append, List.length_singleton]; omega, fun j b hb => ?_⟩
  by_cases hj : j < pl.length
  · rw [List.getElem?_append_left hj] at hb
    obtain ⟨q, h1, h2⟩ := b3 j b hb
    have m1 := List.mem_of_getElem? h1
    have m2 := List.mem_of_getElem? ht
    obtain ⟨e1, e2, e3⟩ := hr q m1
    have e4 := nd_ne r8 h1 ht (by omega)
    have e5 := (r7 t m2).apart (r7 q m1) e4
    exact ⟨q, h1, PL_same h2 hS.2.2.2 (by unfold T3; omega) (by unfold T3; omega) (by unfold T3; omega)⟩
  · have hj2 := (List.getElem?_eq_some_iff.mp hb).1
    rw [List.length_append, List.length_singleton] at hj2
    have hj3 : j = pl.length := by omega
    subst hj3
    rw [List.getElem?_append_right (Nat.le_refl _), Nat.sub_self, List.getElem?_cons_zero, Option.some.injEq] at hb
    subst hb
    exact ⟨t, ht, hL⟩
theorem CB_app {M M' : Mem} {r cap t : Nat} {ps : List Nat} {bs : List Mb} {L : Po} (h : CB M r cap ps bs) (ht : ps[bs.length]? = some t) (hl : mI M' r 1 = (bs.length : Int) + 1) (hL : PL M' t L) (h3 : mI M' t 3 = 0) (h4 : mI M' t 4 = 0) (hS : Same M M' (fun a => a = r ∨ T3 t a)) (hr : ∀ q ∈ ps, r ≠ q ∧ r ≠ q + 1 ∧ r ≠ q + 2) : CB M' r cap ps (bs ++ [(L, 0, 0)]) := by
  obtain ⟨⟨r1, r2, r3, r4, r5, r6, r7, r8⟩, b1, b2, b3⟩ := h
  have hlt := (List.getElem?_eq_some_iff.mp ht).1
  refine ⟨⟨(hS.1 _).trans r1, (hS.2.2.1 _ _).trans r2, (hS.1 _).trans r3, (hS.2.1 _).trans r4, r5, fun j q hq => (hS.2.2.1 _ _).trans (r6 j q hq), fun q hq => hS.pa (r7 q hq), r8⟩, by rw [hl, List.length_append]; rfl, by rw [List.length_append, List.length_singleton]; omega, fun j b hb => ?_⟩
  by_cases hj : j < bs.length
  · rw [List.getElem?_append_left hj] at hb
    obtain ⟨q, h1, h2, h5, h6⟩ := b3 j b hb
    have m1 := List.mem_of_getElem? h1
    have m2 := List.mem_of_getElem? ht
    obtain ⟨e1, e2, e3⟩ := hr q m1
    have e4 := nd_ne r8 h1 ht (by omega)
    have e5 := (r7 t m2).apart (r7 q m1) e4
    exact ⟨q, h1, PL_same h2 hS.2.2.2 (by unfold T3; omega) (by unfold T3; omega) (by unfold T3; omega), (hS.2.2.2 _ _ (by unfold T3; omega)).trans h5, (hS.2.2.2 _ _ (by unfold T3; omega)).trans h6⟩
  · have hj2 := (List.getElem?_eq_some_iff.mp hb).1
    rw [List.length_append, List.length_singleton] at hj2
    have hj3 : j = bs.length := by omega
    subst hj3
    rw [List.getElem?_append_right (Nat.le_refl _), Nat.sub_self, List.getElem?_cons_zero, Option.some.injEq] at hb
    subst hb
    exact ⟨t, ht, hL, h3, h4⟩
theorem CB_rot {M M' : Mem} {r cap k g : Nat} {ps : List Nat} {pl : List Mb} (h : CB M r cap ps pl) (hg : ps[k]? = some g) (hk : k < pl.length) (hS : Smr M M' (fun a => a = r) (fun a => a = r + 1)) (hp : ∀ q ∈ ps, q ≠ r + 1 ∧ r ≠ q ∧ r ≠ q + 1 ∧ r ≠ q + 2) (hm : ∀ j q, (rot ps k pl.length)[j]? = some q → mR M' (r + 1) j = some q) (hl : mI M' r 1 = (pl.length : Int) - 1) : CB M' r cap (rot ps k pl.length) (pl.eraseIdx k) := by
  obtain ⟨h1, h2, h3, h4⟩ := h
  have hle : (pl.eraseIdx k).length = pl.length - 1 := by rw [List.length_eraseIdx, if_pos hk]
  refine ⟨RA_rot h1 hg hk h3 hS (fun q hq => (hp q hq).1) hm, by rw [hl, hle]; omega, by omega, fun j L hj => ?_⟩
  have hj2 : j < pl.length - 1 := by rw [← hle]; exact (List.getElem?_eq_some_iff.mp hj).1
  rw [List.getElem?_eraseIdx] at hj
  rw [rot_get hg hk (by have := h1.2.2.2.2.1; omega)]
  by_cases hjk : j < k
  · rw [if_pos hjk] at hj ⊢
    obtain ⟨q, q1, q2, q3, q4⟩ := h4 j L hj
    obtain ⟨n1, n2, n3, n4⟩ := hp q (List.mem_of_getElem? q1)
    exact ⟨q, q1, PL_same q2 hS.2.2.2 (by omega) (by omega) (by omega), (hS.2.2.2 _ _ (by omega)).trans q3, (hS.2.2.2 _ _ (by omega)).trans q4⟩
  · rw [if_neg hjk] at hj ⊢
    rw [if_pos hj2]
    obtain ⟨q, q1, q2, q3, q4⟩ := h4 (j + 1) L hj
    obtain ⟨n1, n2, n3, n4⟩ := hp q (List.mem_of_getElem? q1)
    exact ⟨q, q1, PL_same q2 hS.2.2.2 (by omega) (by omega) (by omega), (hS.2.2.2 _ _ (by omega)).trans q3, (hS.2.2.2 _ _ (by omega)).trans q4⟩
theorem PB_smr {M M' : Mem} {r cap : Nat} {ps : List Nat} {pl : List Po} {S R : Nat → Prop} (h : PB M r cap ps pl) (hS : Smr M M' S R) (hr : ¬ S r) (h0 : ¬ R r) (h1 : ¬ R (r + 1)) (hp : ∀ q ∈ ps, ¬ S q ∧ ¬ S (q + 1) ∧ ¬ S (q + 2) ∧ ¬ R q) : PB M' r cap ps pl := by
  obtain ⟨ra, b1, b2, b3⟩ := h
  refine ⟨RA_smr ra hS h0 h1 (fun q hq => (hp q hq).2.2.2), (hS.2.2.2 _ _ hr).trans b1, b2, fun j b hb => ?_⟩
  obtain ⟨q, w1, w2⟩ := b3 j b hb
  obtain ⟨g1, g2, g3, -⟩ := hp q (List.mem_of_getElem? w1)
  exact ⟨q, w1, PL_same w2 hS.2.2.2 g1 g2 g3⟩
theorem CB_smr {M M' : Mem} {r cap : Nat} {ps : List Nat} {pl : List Mb} {S R : Nat → Prop} (h : CB M r cap ps pl) (hS : Smr M M' S R) (hr : ¬ S r) (h0 : ¬ R r) (h1 : ¬ R (r + 1)) (hp : ∀ q ∈ ps, ¬ S q ∧ ¬ S (q + 1) ∧ ¬ S (q + 2) ∧ ¬ R q) : CB M' r cap ps pl := by
  obtain ⟨ra, b1, b2, b3⟩ := h
  refine ⟨RA_smr ra hS h0 h1 (fun q hq => (hp q hq).2.2.2), (hS.2.2.2 _ _ hr).trans b1, b2, fun j b hb => ?_⟩
  obtain ⟨q, w1, w2, w3, w4⟩ := b3 j b hb
  obtain ⟨g1, g2, g3, -⟩ := hp q (List.mem_of_getElem? w1)
  exact ⟨q, w1, PL_same w2 hS.2.2.2 g1 g2 g3, (hS.2.2.2 _ _ g1).trans w3, (hS.2.2.2 _ _ g1).trans w4⟩
/-- what a completion may change, but its own object -/
def CR (c a : Nat) : Prop := (c < a ∧ a ≤ c + 79) ∨ (59 ≤ a ∧ a ≤ 360)
def CQ (c a : Nat) : Prop := a = c + 2 ∨ a = 60
def CW (M : Mem) (c : Nat) (o : Int) (ps qs : List Nat) : Prop := Ext M ∧ (c = 361 ∨ c = 441) ∧ CA M c ∧ mI M c 4 = o ∧ (0 ≤ o ∧ o ≤ 2) ∧ PA M (c + 75) ∧ (∀ q ∈ ps, c + 3 ≤ q ∧ q ≤ c + 72) ∧ (∀ q ∈ qs, 61 ≤ q ∧ q ≤ 358)
theorem Smr.ext {M M' : Mem} {S R : Nat → Prop} (h : Smr M M' S R) (hE : Ext M) (hb : ∀ a, BIG ≤ a → ¬ S a) : Ext M' := by
  unfold Ext at hE ⊢
  simp only [h.1, h.2.1]
  rw [h.2.2.2 BIG _ (hb _ (Nat.le_of_ble_eq_true rfl)), h.2.2.2 BIG _ (hb _ (Nat.le_of_ble_eq_true rfl)), h.2.2.2 BIG _ (hb _ (Nat.le_of_ble_eq_true rfl)), h.2.2.2 (BIG + 1) _ (hb _ (Nat.le_of_ble_eq_true rfl)), h.2.2.2 (BIG + 1) _ (hb _ (Nat.le_of_ble_eq_true rfl)), h.2.2.2 (BIG + 1) _ (hb _ (Nat.le_of_ble_eq_true rfl)), h.2.2.2 (BIG + 2) _ (hb _ (Nat.le_of_ble_eq_true rfl)), h.2.2.2 (BIG + 2) _ (hb _ (Nat.le_of_ble_eq_true rfl)), h.2.2.2 (BIG + 2) _ (hb _ (Nat.le_of_ble_eq_true rfl)), h.2.2.2 (BIG + 2) _ (hb _ (Nat.le_of_ble_eq_true rfl)), h.2.2.2 (BIG + 2) _ (hb _ (Nat.le_of_ble_eq_true rfl))]
  exact hE
theorem big_gt : 1000 < BIG := Nat.le_of_ble_eq_true rfl
theorem CA_smr {M M' : Mem} {c : Nat} {S R : Nat → Prop} (h : CA M c) (hS : Smr M M' S R) (hr : ¬ R c) : CA M' c := by
  unfold CA at h ⊢
  simp only [hS.1, hS.2.1, hS.2.2.1 c _ hr]
  exact h
theorem CW.smr {M M' : Mem} {c : Nat} {o : Int} {ps qs ps' qs' : List Nat} (h : CW M c o ps qs) (hS : Smr M M' (CR c) (CQ c)) (hp : ∀ q ∈ ps', c + 3 ≤ q ∧ q ≤ c + 72) (hq : ∀ q ∈ qs', 61 ≤ q ∧ q ≤ 358) : CW M' c o ps' qs' := by
  obtain ⟨h1, hcc, h3, h4, h5, h6, -, -⟩ := h
  have hb := big_gt
  exact ⟨hS.ext h1 (fun a ha => by unfold CR; omega), hcc, CA_smr h3 hS (by unfold CQ; omega), (hS.2.2.2 _ _ (by unfold CR; omega)).trans h4, h5, PA_smr h6 hS (by unfold CQ; omega), hp, hq⟩
